/-! ===== Functions: rows that are marked run by run, word by word ===== -/
def jw (op : Nat) (x y : Int64) : Int64 := match op with
  | 0 => x &&& y
  | 1 => x ||| y
  | 2 => x ^^^ y
  | 3 => (x ^^^ lN 18446744073709551615) ||| y
  | 4 => (x ^^^ y) ^^^ lN 18446744073709551615
  | _ => x &&& (y ^^^ lN 18446744073709551615)
def jn (op : Nat) (x y : Bool) : Bool := match op with
  | 0 => x && y
  | 1 => x || y
  | 2 => x ^^ y
  | 3 => !x || y
  | 4 => !(x ^^ y)
  | _ => x && !y
theorem jw_pkw (op : Nat) (f g : Nat → Bool) (k : Nat) : jw op (pkw f k) (pkw g k) = pkw (fun r => jn op (f r) (g r)) k := by
  unfold jw jn
  split
  · exact pkw_and f g k
  · exact pkw_or f g k
  · exact pkw_xor f g k
  · rw [pkw_not, pkw_or]
  · rw [pkw_xor, pkw_not]
  · rw [pkw_not, pkw_and]
/-- words before i are new -/
def wKw (S : ST) (a o i : Nat) (g : Nat → Bool) : ST := wLA S a (fun k => if o ≤ k ∧ k < o + i then pkw g (k - o) else SL S a k)
theorem wKw_0 (S : ST) (a o : Nat) (g : Nat → Bool) : wKw S a o 0 g = S := st_ext rfl rfl (funext fun b => funext fun k => by
  unfold wKw
  rw [SL_wLA]
  by_cases h : b = a
  · subst h
    rw [if_pos rfl]
    exact if_neg (by omega)
  · rw [if_neg h]) rfl
theorem wKw_16 (S : ST) (a o : Nat) (g : Nat → Bool) : wKw S a o 16 g = wRw S a o g := rfl
theorem SL_wKw (S : ST) (a o i : Nat) (g : Nat → Bool) (b k : Nat) : SL (wKw S a o i g) b k = if b = a ∧ o ≤ k ∧ k < o + i then pkw g (k - o) else SL S b k := by
  unfold wKw
  rw [SL_wLA]
  by_cases h : b = a
  · subst h
    rw [if_pos rfl]
    by_cases c : o ≤ k ∧ k < o + i
    · rw [if_pos c, if_pos ⟨rfl, c⟩]
    · rw [if_neg c, if_neg (fun z => c z.2)]
  · rw [if_neg h, if_neg (fun z => h z.1)]
theorem wKw_s {S : ST} {a o i j : Nat} {g : Nat → Bool} {x : Int64} (hj : j = o + i) (hx : x = pkw g i) : wL (wKw S a o i g) a j x = wKw S a o (i + 1) g := st_ext rfl rfl (funext fun b => funext fun k => by
  subst hj hx
  rw [SL_wL, SL_wKw, SL_wKw]
  by_cases h : b = a ∧ k = o + i
  · obtain ⟨rfl, rfl⟩ := h
    rw [if_pos ⟨rfl, rfl⟩, if_pos ⟨rfl, by omega, by omega⟩, Nat.add_sub_cancel_left]
  · rw [if_neg h]
    by_cases c : b = a ∧ o ≤ k ∧ k < o + i
    · rw [if_pos c, if_pos ⟨c.1, c.2.1, by omega⟩]
    · rw [if_neg c, if_neg (fun z => c ⟨z.1, z.2.1, by have := z.2.2; have : k ≠ o + i := fun e => h ⟨z.1, e⟩; omega⟩)]) rfl
theorem wKw_r {S : ST} {a o b o2 i : Nat} {f g : Nat → Bool} (h : rowS S b o2 f) {k : Nat} (hk : k < 16) (hd : b ≠ a ∨ o2 + 16 ≤ o ∨ o + 16 ≤ o2 ∨ (o2 = o ∧ i ≤ k)) (hi : i ≤ 16) : SL (wKw S a o i g) b (o2 + k) = pkw f k := by
  rw [SL_wKw, if_neg (by omega)]
  exact h k hk
theorem wKw_r0 {S : ST} {a b i : Nat} {f g : Nat → Bool} (h : rowS S b 0 f) {k : Nat} (hk : k < 16) (hd : b ≠ a ∨ i ≤ k) (hi : i ≤ 16) : SL (wKw S a 0 i g) b k = pkw f k := by
  have := wKw_r (a := a) (o := 0) (i := i) (g := g) h hk (by omega) hi
  rw [Nat.zero_add] at this
  exact this
def evr (T : Nat) : Nat → Bool := fun r => decide (r < T)
section RL
variable {X : List Int32} {S : ST} {n : Nat} {sz : Nat → Nat} {a b c e : Nat} {f g h k : Nat → Bool}
theorem c_markValue (hv : vC S n sz) (hka : kd S a = some (.inl (2, 16))) (hfa : rowS S a 0 f) {x y : Int} (hx : rg x) (hy : rg y) : sM X 1 67 [.ref 7, .ref a, .int (iI x), .int (iI y)] S (sV none (wRw S a 0 (mk f (fun r => decide (vlI n sz x r = y)) (pr sz n)))) := by
  have hT0 := hv.1.2.2
  have hy1 := hy.1
  have hy2 := hy.2
  refine sIni (ls := [some (.ref 7), some (.ref a), some (.int (iI x)), some (.int (iI y)), none]) rfl ?_
  refine sKi (p := 1) rfl rfl ?_
  refine sL (pc' := 3) (i := .istore 4) (ls' := [some (.ref 7), some (.ref a), some (.int (iI x)), some (.int (iI y)), some (.int (iI 0))]) rfl rfl ?_
  refine sSh (T := wRw S a 0 (mk f (fun r => decide (vlI n sz x r = y)) 0)) (congrArg sH (mk_s hfa).symm) ?_
  refine sIt (A := fun i => [some (.ref 7), some (.ref a), some (.int (iI x)), some (.int (iI y)), some (.int (iI ((i : Nat) : Int)))]) (B := fun i => wRw S a 0 (mk f (fun r => decide (vlI n sz x r = y)) i)) (fun _ => True) (pr sz n) True.intro (fun i hi3 hI3 ih3 => ?_) (fun hI3 => ?_)
  · have hi3 := hi3
    have hT := hv.1.2.2
    have hvl := vlI_rg hv.1 x i
    refine sL (pc' := 5) (i := .iload 4) rfl rfl ?_
    refine sL (pc' := 6) (i := .aload_n 0) rfl rfl ?_
    refine sGc (p := 9) rfl rfl (sk_7 _) rfl rfl rfl ?_
    refine sGi (p := 12) rfl rfl (sk_1 _) rfl rfl rfl hv.2.2.1 ?_
    refine sIc_ge (p := 15) rfl rfl ⟨by omega, by omega⟩ ⟨by omega, by omega⟩ (fun c1 => ?_) (fun c1 => ?_)
    · exfalso; omega
    · have c1 := c1
      refine sL (pc' := 16) (i := .aload_n 0) rfl rfl ?_
      refine sGc (p := 19) rfl rfl (sk_7 _) rfl rfl rfl ?_
      refine sL (pc' := 21) (i := .iload 4) rfl rfl ?_
      refine sL (pc' := 22) (i := .iload_n 2) rfl rfl ?_
      refine sCv (p := 25) (as := [_, _]) rfl rfl rfl rfl (by decide) (Nat.le_of_ble_eq_true rfl) rfl (Nat.le_of_ble_eq_true rfl) (sk_1 _) rfl (by omega) (c_vl (S := wRw S a 0 (mk f (fun r => decide (vlI n sz x r = y)) i)) hv (r := i) (x := x) (by omega) hx) ?_
      refine sL (pc' := 26) (i := .iload_n 3) rfl rfl ?_
      refine sIc_ne (p := 29) rfl rfl ⟨by omega, by omega⟩ ⟨by omega, by omega⟩ (fun c2 => ?_) (fun c2 => ?_)
      · have c2 := c2
        refine sInX (z := ((i : Nat) : Int)) (ls' := [some (.ref 7), some (.ref a), some (.int (iI x)), some (.int (iI y)), some (.int (iI (((i : Nat) : Int) + 1)))]) (p := 38) rfl rfl (Nat.le_of_ble_eq_true rfl) rfl rfl ?_
        refine sL (i := .goto (-35)) rfl rfl ?_
        refine sRo (ls := [some (.ref 7), some (.ref a), some (.int (iI x)), some (.int (iI y)), some (.int (iI ((i + 1 : Nat) : Int)))]) (T := wRw S a 0 (mk f (fun r => decide (vlI n sz x r = y)) (i + 1))) (And.intro rfl (And.intro rfl (And.intro rfl (And.intro rfl (And.intro rfl (True.intro)))))) (congrArg sH (mk_f (decide_eq_false (by omega)))) (ih3 ?_)
        exact True.intro
      · have c2 := c2
        refine sL (pc' := 30) (i := .aload_n 1) rfl rfl ?_
        refine sL (pc' := 32) (i := .iload 4) rfl rfl ?_
        refine sCs (p := 35) (as := [_, _]) rfl rfl rfl rfl (by decide) (Nat.le_of_ble_eq_true rfl) rfl (Nat.le_of_ble_eq_true rfl) rfl (by omega) (c_mark (S := wRw S a 0 (mk f (fun r => decide (vlI n sz x r = y)) i)) (r := i) (f := mk f _ i) hka (rowS_wRw _ _ _ _) (by omega)) ?_
        refine sInX (z := ((i : Nat) : Int)) (ls' := [some (.ref 7), some (.ref a), some (.int (iI x)), some (.int (iI y)), some (.int (iI (((i : Nat) : Int) + 1)))]) (p := 38) rfl rfl (Nat.le_of_ble_eq_true rfl) rfl rfl ?_
        refine sL (i := .goto (-35)) rfl rfl ?_
        refine sRo (ls := [some (.ref 7), some (.ref a), some (.int (iI x)), some (.int (iI y)), some (.int (iI ((i + 1 : Nat) : Int)))]) (T := wRw S a 0 (mk f (fun r => decide (vlI n sz x r = y)) (i + 1))) (And.intro rfl (And.intro rfl (And.intro rfl (And.intro rfl (And.intro rfl (True.intro)))))) (congrArg sH (mk_t (decide_eq_true (by omega)))) (ih3 ?_)
        exact True.intro
  · have hI3 := hI3
    refine sL (pc' := 5) (i := .iload 4) rfl rfl ?_
    refine sL (pc' := 6) (i := .aload_n 0) rfl rfl ?_
    refine sGc (p := 9) rfl rfl (sk_7 _) rfl rfl rfl ?_
    refine sGi (p := 12) rfl rfl (sk_1 _) rfl rfl rfl hv.2.2.1 ?_
    refine sIc_ge (p := 15) rfl rfl ⟨by omega, by omega⟩ ⟨by omega, by omega⟩ (fun c3 => ?_) (fun c3 => ?_)
    · have c3 := c3
      refine sEn (i := .return_) rfl (rfl) ?_
      exact ⟨rfl, rfl⟩
    · exfalso; omega
def cmpP (sz : Nat → Nat) (u v how : Nat) : Nat → Bool := fun r => decide ((how ≠ 1 ∧ val sz r u = val sz r v) ∨ (how ≠ 0 ∧ val sz r u < val sz r v))
theorem c_markCompared (hv : vC S n sz) (hka : kd S a = some (.inl (2, 16))) (hfa : rowS S a 0 f) {u v how : Nat} (hu : u < n) (hvv : v < n) (hh : how ≤ 2) : sM X 1 68 [.ref 7, .ref a, .int (iI (u : Nat)), .int (iI (v : Nat)), .int (iI (how : Nat))] S (sV none (wRw S a 0 (mk f (cmpP sz u v how) (pr sz n)))) := by
  have hT0 := hv.1.2.2
  refine sIni (ls := [some (.ref 7), some (.ref a), some (.int (iI ((u : Nat) : Int))), some (.int (iI ((v : Nat) : Int))), some (.int (iI ((how : Nat) : Int))), none, none, none]) rfl ?_
  refine sKi (p := 1) rfl rfl ?_
  refine sL (pc' := 3) (i := .istore 5) (ls' := [some (.ref 7), some (.ref a), some (.int (iI ((u : Nat) : Int))), some (.int (iI ((v : Nat) : Int))), some (.int (iI ((how : Nat) : Int))), some (.int (iI 0)), none, none]) rfl rfl ?_
  refine sSh (T := wRw S a 0 (mk f (cmpP sz u v how) 0)) (congrArg sH (mk_s hfa).symm) ?_
  refine sIt (A := fun i => [some (.ref 7), some (.ref a), some (.int (iI ((u : Nat) : Int))), some (.int (iI ((v : Nat) : Int))), some (.int (iI ((how : Nat) : Int))), some (.int (iI ((i : Nat) : Int))), none, none]) (B := fun i => wRw S a 0 (mk f (cmpP sz u v how) i)) (fun _ => True) (pr sz n) True.intro (fun i hi3 hI3 ih3 => ?_) (fun hI3 => ?_)
  · have hi3 := hi3
    have hT := hv.1.2.2
    have hvu := hv.1.val hu i
    have hvw := hv.1.val hvv i
    have hsu := hv.1.2.1 u hu
    have hsv := hv.1.2.1 v hvv
    refine sL (pc' := 5) (i := .iload 5) rfl rfl ?_
    refine sL (pc' := 6) (i := .aload_n 0) rfl rfl ?_
    refine sGc (p := 9) rfl rfl (sk_7 _) rfl rfl rfl ?_
    refine sGi (p := 12) rfl rfl (sk_1 _) rfl rfl rfl hv.2.2.1 ?_
    refine sIc_ge (p := 15) rfl rfl ⟨by omega, by omega⟩ ⟨by omega, by omega⟩ (fun c1 => ?_) (fun c1 => ?_)
    · exfalso; omega
    · have c1 := c1
      refine sL (pc' := 16) (i := .aload_n 0) rfl rfl ?_
      refine sGc (p := 19) rfl rfl (sk_7 _) rfl rfl rfl ?_
      refine sL (pc' := 21) (i := .iload 5) rfl rfl ?_
      refine sL (pc' := 22) (i := .iload_n 2) rfl rfl ?_
      refine sCv (p := 25) (as := [_, _]) rfl rfl rfl rfl (by decide) (Nat.le_of_ble_eq_true rfl) rfl (Nat.le_of_ble_eq_true rfl) (sk_1 _) rfl (by omega) (c_val (S := wRw S a 0 (mk f (cmpP sz u v how) i)) hv (r := i) (v := u) (by omega) (by assumption)) ?_
      refine sL (pc' := 27) (i := .istore 6) (ls' := [some (.ref 7), some (.ref a), some (.int (iI ((u : Nat) : Int))), some (.int (iI ((v : Nat) : Int))), some (.int (iI ((how : Nat) : Int))), some (.int (iI ((i : Nat) : Int))), some (.int (iI ((val sz i u : Nat) : Int))), none]) rfl rfl ?_
      refine sL (pc' := 28) (i := .aload_n 0) rfl rfl ?_
      refine sGc (p := 31) rfl rfl (sk_7 _) rfl rfl rfl ?_
      refine sL (pc' := 33) (i := .iload 5) rfl rfl ?_
      refine sL (pc' := 34) (i := .iload_n 3) rfl rfl ?_
      refine sCv (p := 37) (as := [_, _]) rfl rfl rfl rfl (by decide) (Nat.le_of_ble_eq_true rfl) rfl (Nat.le_of_ble_eq_true rfl) (sk_1 _) rfl (by omega) (c_val (S := wRw S a 0 (mk f (cmpP sz u v how) i)) hv (r := i) (v := v) (by omega) (by assumption)) ?_
      refine sL (pc' := 39) (i := .istore 7) (ls' := [some (.ref 7), some (.ref a), some (.int (iI ((u : Nat) : Int))), some (.int (iI ((v : Nat) : Int))), some (.int (iI ((how : Nat) : Int))), some (.int (iI ((i : Nat) : Int))), some (.int (iI ((val sz i u : Nat) : Int))), some (.int (iI ((val sz i v : Nat) : Int)))]) rfl rfl ?_
      refine sL (pc' := 41) (i := .iload 4) rfl rfl ?_
      refine sKi (p := 42) rfl rfl ?_
      refine sIc_eq (p := 45) rfl rfl ⟨by omega, by omega⟩ ⟨by omega, by omega⟩ (fun c2 => ?_) (fun c2 => ?_)
      · have c2 := c2
        refine sL (pc' := 54) (i := .iload 4) rfl rfl ?_
        refine sIf_eq (p := 57) rfl rfl ⟨by omega, by omega⟩ (fun c3 => ?_) (fun c3 => ?_)
        · have c3 := c3
          refine sInX (z := ((i : Nat) : Int)) (ls' := [some (.ref 7), some (.ref a), some (.int (iI ((u : Nat) : Int))), some (.int (iI ((v : Nat) : Int))), some (.int (iI ((how : Nat) : Int))), some (.int (iI (((i : Nat) : Int) + 1))), some (.int (iI ((val sz i u : Nat) : Int))), some (.int (iI ((val sz i v : Nat) : Int)))]) (p := 73) rfl rfl (Nat.le_of_ble_eq_true rfl) rfl rfl ?_
          refine sL (i := .goto (-70)) rfl rfl ?_
          refine sRo (ls := [some (.ref 7), some (.ref a), some (.int (iI ((u : Nat) : Int))), some (.int (iI ((v : Nat) : Int))), some (.int (iI ((how : Nat) : Int))), some (.int (iI ((i + 1 : Nat) : Int))), none, none]) (T := wRw S a 0 (mk f (cmpP sz u v how) (i + 1))) (And.intro rfl (And.intro rfl (And.intro rfl (And.intro rfl (And.intro rfl (And.intro rfl (True.intro))))))) (congrArg sH (mk_f (decide_eq_false (by omega)))) (ih3 ?_)
          exact True.intro
        · have c3 := c3
          refine sL (pc' := 59) (i := .iload 6) rfl rfl ?_
          refine sL (pc' := 61) (i := .iload 7) rfl rfl ?_
          refine sIc_ge (p := 64) rfl rfl ⟨by omega, by omega⟩ ⟨by omega, by omega⟩ (fun c4 => ?_) (fun c4 => ?_)
          · have c4 := c4
            refine sInX (z := ((i : Nat) : Int)) (ls' := [some (.ref 7), some (.ref a), some (.int (iI ((u : Nat) : Int))), some (.int (iI ((v : Nat) : Int))), some (.int (iI ((how : Nat) : Int))), some (.int (iI (((i : Nat) : Int) + 1))), some (.int (iI ((val sz i u : Nat) : Int))), some (.int (iI ((val sz i v : Nat) : Int)))]) (p := 73) rfl rfl (Nat.le_of_ble_eq_true rfl) rfl rfl ?_
            refine sL (i := .goto (-70)) rfl rfl ?_
            refine sRo (ls := [some (.ref 7), some (.ref a), some (.int (iI ((u : Nat) : Int))), some (.int (iI ((v : Nat) : Int))), some (.int (iI ((how : Nat) : Int))), some (.int (iI ((i + 1 : Nat) : Int))), none, none]) (T := wRw S a 0 (mk f (cmpP sz u v how) (i + 1))) (And.intro rfl (And.intro rfl (And.intro rfl (And.intro rfl (And.intro rfl (And.intro rfl (True.intro))))))) (congrArg sH (mk_f (decide_eq_false (by omega)))) (ih3 ?_)
            exact True.intro
          · have c4 := c4
            refine sL (pc' := 65) (i := .aload_n 1) rfl rfl ?_
            refine sL (pc' := 67) (i := .iload 5) rfl rfl ?_
            refine sCs (p := 70) (as := [_, _]) rfl rfl rfl rfl (by decide) (Nat.le_of_ble_eq_true rfl) rfl (Nat.le_of_ble_eq_true rfl) rfl (by omega) (c_mark (S := wRw S a 0 (mk f (cmpP sz u v how) i)) (r := i) (f := mk f _ i) hka (rowS_wRw _ _ _ _) (by omega)) ?_
            refine sInX (z := ((i : Nat) : Int)) (ls' := [some (.ref 7), some (.ref a), some (.int (iI ((u : Nat) : Int))), some (.int (iI ((v : Nat) : Int))), some (.int (iI ((how : Nat) : Int))), some (.int (iI (((i : Nat) : Int) + 1))), some (.int (iI ((val sz i u : Nat) : Int))), some (.int (iI ((val sz i v : Nat) : Int)))]) (p := 73) rfl rfl (Nat.le_of_ble_eq_true rfl) rfl rfl ?_
            refine sL (i := .goto (-70)) rfl rfl ?_
            refine sRo (ls := [some (.ref 7), some (.ref a), some (.int (iI ((u : Nat) : Int))), some (.int (iI ((v : Nat) : Int))), some (.int (iI ((how : Nat) : Int))), some (.int (iI ((i + 1 : Nat) : Int))), none, none]) (T := wRw S a 0 (mk f (cmpP sz u v how) (i + 1))) (And.intro rfl (And.intro rfl (And.intro rfl (And.intro rfl (And.intro rfl (And.intro rfl (True.intro))))))) (congrArg sH (mk_t (decide_eq_true (by omega)))) (ih3 ?_)
            exact True.intro
      · have c2 := c2
        refine sL (pc' := 47) (i := .iload 6) rfl rfl ?_
        refine sL (pc' := 49) (i := .iload 7) rfl rfl ?_
        refine sIc_eq (p := 52) rfl rfl ⟨by omega, by omega⟩ ⟨by omega, by omega⟩ (fun c5 => ?_) (fun c5 => ?_)
        · have c5 := c5
          refine sL (pc' := 65) (i := .aload_n 1) rfl rfl ?_
          refine sL (pc' := 67) (i := .iload 5) rfl rfl ?_
          refine sCs (p := 70) (as := [_, _]) rfl rfl rfl rfl (by decide) (Nat.le_of_ble_eq_true rfl) rfl (Nat.le_of_ble_eq_true rfl) rfl (by omega) (c_mark (S := wRw S a 0 (mk f (cmpP sz u v how) i)) (r := i) (f := mk f _ i) hka (rowS_wRw _ _ _ _) (by omega)) ?_
          refine sInX (z := ((i : Nat) : Int)) (ls' := [some (.ref 7), some (.ref a), some (.int (iI ((u : Nat) : Int))), some (.int (iI ((v : Nat) : Int))), some (.int (iI ((how : Nat) : Int))), some (.int (iI (((i : Nat) : Int) + 1))), some (.int (iI ((val sz i u : Nat) : Int))), some (.int (iI ((val sz i v : Nat) : Int)))]) (p := 73) rfl rfl (Nat.le_of_ble_eq_true rfl) rfl rfl ?_
          refine sL (i := .goto (-70)) rfl rfl ?_
          refine sRo (ls := [some (.ref 7), some (.ref a), some (.int (iI ((u : Nat) : Int))), some (.int (iI ((v : Nat) : Int))), some (.int (iI ((how : Nat) : Int))), some (.int (iI ((i + 1 : Nat) : Int))), none, none]) (T := wRw S a 0 (mk f (cmpP sz u v how) (i + 1))) (And.intro rfl (And.intro rfl (And.intro rfl (And.intro rfl (And.intro rfl (And.intro rfl (True.intro))))))) (congrArg sH (mk_t (decide_eq_true (by omega)))) (ih3 ?_)
          exact True.intro
        · have c5 := c5
          refine sL (pc' := 54) (i := .iload 4) rfl rfl ?_
          refine sIf_eq (p := 57) rfl rfl ⟨by omega, by omega⟩ (fun c6 => ?_) (fun c6 => ?_)
          · have c6 := c6
            refine sInX (z := ((i : Nat) : Int)) (ls' := [some (.ref 7), some (.ref a), some (.int (iI ((u : Nat) : Int))), some (.int (iI ((v : Nat) : Int))), some (.int (iI ((how : Nat) : Int))), some (.int (iI (((i : Nat) : Int) + 1))), some (.int (iI ((val sz i u : Nat) : Int))), some (.int (iI ((val sz i v : Nat) : Int)))]) (p := 73) rfl rfl (Nat.le_of_ble_eq_true rfl) rfl rfl ?_
            refine sL (i := .goto (-70)) rfl rfl ?_
            refine sRo (ls := [some (.ref 7), some (.ref a), some (.int (iI ((u : Nat) : Int))), some (.int (iI ((v : Nat) : Int))), some (.int (iI ((how : Nat) : Int))), some (.int (iI ((i + 1 : Nat) : Int))), none, none]) (T := wRw S a 0 (mk f (cmpP sz u v how) (i + 1))) (And.intro rfl (And.intro rfl (And.intro rfl (And.intro rfl (And.intro rfl (And.intro rfl (True.intro))))))) (congrArg sH (mk_f (decide_eq_false (by omega)))) (ih3 ?_)
            exact True.intro
          · have c6 := c6
            refine sL (pc' := 59) (i := .iload 6) rfl rfl ?_
            refine sL (pc' := 61) (i := .iload 7) rfl rfl ?_
            refine sIc_ge (p := 64) rfl rfl ⟨by omega, by omega⟩ ⟨by omega, by omega⟩ (fun c7 => ?_) (fun c7 => ?_)
            · have c7 := c7
              refine sInX (z := ((i : Nat) : Int)) (ls' := [some (.ref 7), some (.ref a), some (.int (iI ((u : Nat) : Int))), some (.int (iI ((v : Nat) : Int))), some (.int (iI ((how : Nat) : Int))), some (.int (iI (((i : Nat) : Int) + 1))), some (.int (iI ((val sz i u : Nat) : Int))), some (.int (iI ((val sz i v : Nat) : Int)))]) (p := 73) rfl rfl (Nat.le_of_ble_eq_true rfl) rfl rfl ?_
              refine sL (i := .goto (-70)) rfl rfl ?_
              refine sRo (ls := [some (.ref 7), some (.ref a), some (.int (iI ((u : Nat) : Int))), some (.int (iI ((v : Nat) : Int))), some (.int (iI ((how : Nat) : Int))), some (.int (iI ((i + 1 : Nat) : Int))), none, none]) (T := wRw S a 0 (mk f (cmpP sz u v how) (i + 1))) (And.intro rfl (And.intro rfl (And.intro rfl (And.intro rfl (And.intro rfl (And.intro rfl (True.intro))))))) (congrArg sH (mk_f (decide_eq_false (by omega)))) (ih3 ?_)
              exact True.intro
            · have c7 := c7
              refine sL (pc' := 65) (i := .aload_n 1) rfl rfl ?_
              refine sL (pc' := 67) (i := .iload 5) rfl rfl ?_
              refine sCs (p := 70) (as := [_, _]) rfl rfl rfl rfl (by decide) (Nat.le_of_ble_eq_true rfl) rfl (Nat.le_of_ble_eq_true rfl) rfl (by omega) (c_mark (S := wRw S a 0 (mk f (cmpP sz u v how) i)) (r := i) (f := mk f _ i) hka (rowS_wRw _ _ _ _) (by omega)) ?_
              refine sInX (z := ((i : Nat) : Int)) (ls' := [some (.ref 7), some (.ref a), some (.int (iI ((u : Nat) : Int))), some (.int (iI ((v : Nat) : Int))), some (.int (iI ((how : Nat) : Int))), some (.int (iI (((i : Nat) : Int) + 1))), some (.int (iI ((val sz i u : Nat) : Int))), some (.int (iI ((val sz i v : Nat) : Int)))]) (p := 73) rfl rfl (Nat.le_of_ble_eq_true rfl) rfl rfl ?_
              refine sL (i := .goto (-70)) rfl rfl ?_
              refine sRo (ls := [some (.ref 7), some (.ref a), some (.int (iI ((u : Nat) : Int))), some (.int (iI ((v : Nat) : Int))), some (.int (iI ((how : Nat) : Int))), some (.int (iI ((i + 1 : Nat) : Int))), none, none]) (T := wRw S a 0 (mk f (cmpP sz u v how) (i + 1))) (And.intro rfl (And.intro rfl (And.intro rfl (And.intro rfl (And.intro rfl (And.intro rfl (True.intro))))))) (congrArg sH (mk_t (decide_eq_true (by omega)))) (ih3 ?_)
              exact True.intro
  · have hI3 := hI3
    refine sL (pc' := 5) (i := .iload 5) rfl rfl ?_
    refine sL (pc' := 6) (i := .aload_n 0) rfl rfl ?_
    refine sGc (p := 9) rfl rfl (sk_7 _) rfl rfl rfl ?_
    refine sGi (p := 12) rfl rfl (sk_1 _) rfl rfl rfl hv.2.2.1 ?_
    refine sIc_ge (p := 15) rfl rfl ⟨by omega, by omega⟩ ⟨by omega, by omega⟩ (fun c8 => ?_) (fun c8 => ?_)
    · have c8 := c8
      refine sEn (i := .return_) rfl (rfl) ?_
      exact ⟨rfl, rfl⟩
    · exfalso; omega
theorem c_combined0 {x y : Int64} : sM X 0 71 [.int (iI 0), .long x, .long y] S (sV (some (.long (jw 0 x y))) S) := by
  refine sIni (ls := [some (.int (iI 0)), some (.long x), none, some (.long y), none]) rfl ?_
  refine sL (pc' := 1) (i := .iload_n 0) rfl rfl ?_
  refine sL (pc' := 36) (i := .tableswitch 63 0 4 #[35, 39, 43, 47, 55]) rfl rfl ?_
  refine sL (pc' := 37) (i := .lload_n 1) rfl rfl ?_
  refine sL (pc' := 38) (i := .lload_n 3) rfl rfl ?_
  refine sL (pc' := 39) (i := .land) rfl rfl ?_
  refine sEn (i := .lreturn) rfl (rfl) ?_
  exact ⟨rfl, rfl⟩
theorem c_combined1 {x y : Int64} : sM X 0 71 [.int (iI 1), .long x, .long y] S (sV (some (.long (jw 1 x y))) S) := by
  refine sIni (ls := [some (.int (iI 1)), some (.long x), none, some (.long y), none]) rfl ?_
  refine sL (pc' := 1) (i := .iload_n 0) rfl rfl ?_
  refine sL (pc' := 40) (i := .tableswitch 63 0 4 #[35, 39, 43, 47, 55]) rfl rfl ?_
  refine sL (pc' := 41) (i := .lload_n 1) rfl rfl ?_
  refine sL (pc' := 42) (i := .lload_n 3) rfl rfl ?_
  refine sL (pc' := 43) (i := .lor) rfl rfl ?_
  refine sEn (i := .lreturn) rfl (rfl) ?_
  exact ⟨rfl, rfl⟩
theorem c_combined2 {x y : Int64} : sM X 0 71 [.int (iI 2), .long x, .long y] S (sV (some (.long (jw 2 x y))) S) := by
  refine sIni (ls := [some (.int (iI 2)), some (.long x), none, some (.long y), none]) rfl ?_
  refine sL (pc' := 1) (i := .iload_n 0) rfl rfl ?_
  refine sL (pc' := 44) (i := .tableswitch 63 0 4 #[35, 39, 43, 47, 55]) rfl rfl ?_
  refine sL (pc' := 45) (i := .lload_n 1) rfl rfl ?_
  refine sL (pc' := 46) (i := .lload_n 3) rfl rfl ?_
  refine sL (pc' := 47) (i := .lxor) rfl rfl ?_
  refine sEn (i := .lreturn) rfl (rfl) ?_
  exact ⟨rfl, rfl⟩
theorem c_combined3 {x y : Int64} : sM X 0 71 [.int (iI 3), .long x, .long y] S (sV (some (.long (jw 3 x y))) S) := by
  refine sIni (ls := [some (.int (iI 3)), some (.long x), none, some (.long y), none]) rfl ?_
  refine sL (pc' := 1) (i := .iload_n 0) rfl rfl ?_
  refine sL (pc' := 48) (i := .tableswitch 63 0 4 #[35, 39, 43, 47, 55]) rfl rfl ?_
  refine sL (pc' := 49) (i := .lload_n 1) rfl rfl ?_
  refine sL (pc' := 52) (i := .ldc2_w 31) rfl rfl ?_
  refine sL (pc' := 53) (i := .lxor) rfl rfl ?_
  refine sL (pc' := 54) (i := .lload_n 3) rfl rfl ?_
  refine sL (pc' := 55) (i := .lor) rfl rfl ?_
  refine sEn (i := .lreturn) rfl (rfl) ?_
  exact ⟨rfl, rfl⟩
theorem c_combined4 {x y : Int64} : sM X 0 71 [.int (iI 4), .long x, .long y] S (sV (some (.long (jw 4 x y))) S) := by
  refine sIni (ls := [some (.int (iI 4)), some (.long x), none, some (.long y), none]) rfl ?_
  refine sL (pc' := 1) (i := .iload_n 0) rfl rfl ?_
  refine sL (pc' := 56) (i := .tableswitch 63 0 4 #[35, 39, 43, 47, 55]) rfl rfl ?_
  refine sL (pc' := 57) (i := .lload_n 1) rfl rfl ?_
  refine sL (pc' := 58) (i := .lload_n 3) rfl rfl ?_
  refine sL (pc' := 59) (i := .lxor) rfl rfl ?_
  refine sL (pc' := 62) (i := .ldc2_w 31) rfl rfl ?_
  refine sL (pc' := 63) (i := .lxor) rfl rfl ?_
  refine sEn (i := .lreturn) rfl (rfl) ?_
  exact ⟨rfl, rfl⟩
theorem c_combined5 {x y : Int64} : sM X 0 71 [.int (iI 5), .long x, .long y] S (sV (some (.long (jw 5 x y))) S) := by
  refine sIni (ls := [some (.int (iI 5)), some (.long x), none, some (.long y), none]) rfl ?_
  refine sL (pc' := 1) (i := .iload_n 0) rfl rfl ?_
  refine sL (pc' := 64) (i := .tableswitch 63 0 4 #[35, 39, 43, 47, 55]) rfl rfl ?_
  refine sL (pc' := 65) (i := .lload_n 1) rfl rfl ?_
  refine sL (pc' := 66) (i := .lload_n 3) rfl rfl ?_
  refine sL (pc' := 69) (i := .ldc2_w 31) rfl rfl ?_
  refine sL (pc' := 70) (i := .lxor) rfl rfl ?_
  refine sL (pc' := 71) (i := .land) rfl rfl ?_
  refine sEn (i := .lreturn) rfl (rfl) ?_
  exact ⟨rfl, rfl⟩
theorem c_combined {x y : Int64} : ∀ {op : Nat}, op ≤ 5 → sM X 0 71 [.int (iI (op : Nat)), .long x, .long y] S (sV (some (.long (jw op x y))) S)
  | 0, _ => c_combined0
  | 1, _ => c_combined1
  | 2, _ => c_combined2
  | 3, _ => c_combined3
  | 4, _ => c_combined4
  | 5, _ => c_combined5
  | _ + 6, h => absurd h (by omega)
theorem c_combine {T op : Nat} (hka : kd S a = some (.inl (2, 16))) (hkb : kd S b = some (.inl (2, 16))) (hkc : kd S c = some (.inl (2, 16))) (hfb : rowS S b 0 f) (hfc : rowS S c 0 g) (hev : rowS S 51 0 (evr T)) (ha : a ≠ 51) (ho : op ≤ 5) : sM X 1 70 [.ref 7, .ref a, .int (iI (op : Nat)), .ref b, .ref c] S (sV none (wRw S a 0 (fun r => jn op (f r) (g r) && decide (r < T)))) := by
  refine sIni (ls := [some (.ref 7), some (.ref a), some (.int (iI ((op : Nat) : Int))), some (.ref b), some (.ref c), none]) rfl ?_
  refine sKi (p := 1) rfl rfl ?_
  refine sL (pc' := 3) (i := .istore 5) (ls' := [some (.ref 7), some (.ref a), some (.int (iI ((op : Nat) : Int))), some (.ref b), some (.ref c), some (.int (iI 0))]) rfl rfl ?_
  refine sSh (T := wKw S a 0 0 (fun r => jn op (f r) (g r) && decide (r < T))) (congrArg sH (wKw_0 _ _ _ _).symm) ?_
  refine sIt (A := fun i => [some (.ref 7), some (.ref a), some (.int (iI ((op : Nat) : Int))), some (.ref b), some (.ref c), some (.int (iI ((i : Nat) : Int)))]) (B := fun i => wKw S a 0 i (fun r => jn op (f r) (g r) && decide (r < T))) (fun _ => True) 16 True.intro (fun i hi3 hI3 ih3 => ?_) (fun hI3 => ?_)
  · have hi3 := hi3
    refine sL (pc' := 5) (i := .iload 5) rfl rfl ?_
    refine sKb (p := 7) rfl rfl ?_
    refine sIc_ge (p := 10) rfl rfl ⟨by omega, by omega⟩ ⟨by omega, by omega⟩ (fun c1 => ?_) (fun c1 => ?_)
    · exfalso; omega
    · have c1 := c1
      refine sL (pc' := 11) (i := .aload_n 1) rfl rfl ?_
      refine sL (pc' := 13) (i := .iload 5) rfl rfl ?_
      refine sL (pc' := 14) (i := .iload_n 2) rfl rfl ?_
      refine sL (pc' := 15) (i := .aload_n 3) rfl rfl ?_
      refine sL (pc' := 17) (i := .iload 5) rfl rfl ?_
      refine sAl (p := 18) (i := i) rfl rfl hkb (by omega) ⟨by omega, by omega⟩ (wKw_r0 hfb (by omega) (by omega) (by omega)) ?_
      refine sL (pc' := 20) (i := .aload 4) rfl rfl ?_
      refine sL (pc' := 22) (i := .iload 5) rfl rfl ?_
      refine sAl (p := 23) (i := i) rfl rfl hkc (by omega) ⟨by omega, by omega⟩ (wKw_r0 hfc (by omega) (by omega) (by omega)) ?_
      refine sCs (p := 26) (as := [_, _, _]) rfl rfl rfl rfl (by decide) (Nat.le_of_ble_eq_true rfl) rfl (Nat.le_of_ble_eq_true rfl) rfl (by omega) (c_combined ho) ?_
      refine sL (pc' := 27) (i := .aload_n 0) rfl rfl ?_
      refine sGc (p := 30) rfl rfl (sk_7 _) rfl rfl rfl ?_
      refine sL (pc' := 32) (i := .iload 5) rfl rfl ?_
      refine sAl (p := 33) (i := i) rfl rfl (sk_51 _) (by omega) ⟨by omega, by omega⟩ (wKw_r0 hev (by omega) (by omega) (by omega)) ?_
      refine sL (pc' := 34) (i := .land) rfl rfl ?_
      refine sWl (p := 35) (i := i) rfl rfl hka (by omega) ⟨by omega, by omega⟩ ?_
      refine sInX (z := ((i : Nat) : Int)) (ls' := [some (.ref 7), some (.ref a), some (.int (iI ((op : Nat) : Int))), some (.ref b), some (.ref c), some (.int (iI (((i : Nat) : Int) + 1)))]) (p := 38) rfl rfl (Nat.le_of_ble_eq_true rfl) rfl rfl ?_
      refine sL (i := .goto (-35)) rfl rfl ?_
      refine sRo (ls := [some (.ref 7), some (.ref a), some (.int (iI ((op : Nat) : Int))), some (.ref b), some (.ref c), some (.int (iI ((i + 1 : Nat) : Int)))]) (T := wKw S a 0 (i + 1) (fun r => jn op (f r) (g r) && decide (r < T))) (And.intro rfl (And.intro rfl (And.intro rfl (And.intro rfl (And.intro rfl (And.intro rfl (True.intro))))))) (congrArg sH (wKw_s (by omega) (by rw [jw_pkw, pkw_and]; rfl))) (ih3 ?_)
      exact True.intro
  · have hI3 := hI3
    refine sL (pc' := 5) (i := .iload 5) rfl rfl ?_
    refine sKb (p := 7) rfl rfl ?_
    refine sIc_ge (p := 10) rfl rfl ⟨by omega, by omega⟩ ⟨by omega, by omega⟩ (fun c2 => ?_) (fun c2 => ?_)
    · have c2 := c2
      refine sEn (i := .return_) rfl (rfl) ?_
      exact ⟨rfl, congrArg sH (wKw_16 _ _ _ _)⟩
    · exact absurd c2 (by decide)
theorem c_markChosen (hka : kd S a = some (.inl (2, 16))) (hkb : kd S b = some (.inl (2, 16))) (hkc : kd S c = some (.inl (2, 16))) (hke : kd S e = some (.inl (2, 16))) (hfb : rowS S b 0 f) (hfc : rowS S c 0 g) (hfe : rowS S e 0 h) : sM X 0 72 [.ref 7, .ref a, .ref b, .ref c, .ref e] S (sV none (wRw S a 0 (fun r => f r && g r || !f r && h r))) := by
  refine sIni (ls := [some (.ref 7), some (.ref a), some (.ref b), some (.ref c), some (.ref e), none]) rfl ?_
  refine sKi (p := 1) rfl rfl ?_
  refine sL (pc' := 3) (i := .istore 5) (ls' := [some (.ref 7), some (.ref a), some (.ref b), some (.ref c), some (.ref e), some (.int (iI 0))]) rfl rfl ?_
  refine sSh (T := wKw S a 0 0 (fun r => f r && g r || !f r && h r)) (congrArg sH (wKw_0 _ _ _ _).symm) ?_
  refine sIt (A := fun i => [some (.ref 7), some (.ref a), some (.ref b), some (.ref c), some (.ref e), some (.int (iI ((i : Nat) : Int)))]) (B := fun i => wKw S a 0 i (fun r => f r && g r || !f r && h r)) (fun _ => True) 16 True.intro (fun i hi3 hI3 ih3 => ?_) (fun hI3 => ?_)
  · have hi3 := hi3
    refine sL (pc' := 5) (i := .iload 5) rfl rfl ?_
    refine sKb (p := 7) rfl rfl ?_
    refine sIc_ge (p := 10) rfl rfl ⟨by omega, by omega⟩ ⟨by omega, by omega⟩ (fun c1 => ?_) (fun c1 => ?_)
    · exfalso; omega
    · have c1 := c1
      refine sL (pc' := 11) (i := .aload_n 1) rfl rfl ?_
      refine sL (pc' := 13) (i := .iload 5) rfl rfl ?_
      refine sL (pc' := 14) (i := .aload_n 2) rfl rfl ?_
      refine sL (pc' := 16) (i := .iload 5) rfl rfl ?_
      refine sAl (p := 17) (i := i) rfl rfl hkb (by omega) ⟨by omega, by omega⟩ (wKw_r0 hfb (by omega) (by omega) (by omega)) ?_
      refine sL (pc' := 18) (i := .aload_n 3) rfl rfl ?_
      refine sL (pc' := 20) (i := .iload 5) rfl rfl ?_
      refine sAl (p := 21) (i := i) rfl rfl hkc (by omega) ⟨by omega, by omega⟩ (wKw_r0 hfc (by omega) (by omega) (by omega)) ?_
      refine sL (pc' := 22) (i := .land) rfl rfl ?_
      refine sL (pc' := 23) (i := .aload_n 2) rfl rfl ?_
      refine sL (pc' := 25) (i := .iload 5) rfl rfl ?_
      refine sAl (p := 26) (i := i) rfl rfl hkb (by omega) ⟨by omega, by omega⟩ (wKw_r0 hfb (by omega) (by omega) (by omega)) ?_
      refine sL (pc' := 29) (i := .ldc2_w 31) rfl rfl ?_
      refine sL (pc' := 30) (i := .lxor) rfl rfl ?_
      refine sL (pc' := 32) (i := .aload 4) rfl rfl ?_
      refine sL (pc' := 34) (i := .iload 5) rfl rfl ?_
      refine sAl (p := 35) (i := i) rfl rfl hke (by omega) ⟨by omega, by omega⟩ (wKw_r0 hfe (by omega) (by omega) (by omega)) ?_
      refine sL (pc' := 36) (i := .land) rfl rfl ?_
      refine sL (pc' := 37) (i := .lor) rfl rfl ?_
      refine sWl (p := 38) (i := i) rfl rfl hka (by omega) ⟨by omega, by omega⟩ ?_
      refine sInX (z := ((i : Nat) : Int)) (ls' := [some (.ref 7), some (.ref a), some (.ref b), some (.ref c), some (.ref e), some (.int (iI (((i : Nat) : Int) + 1)))]) (p := 41) rfl rfl (Nat.le_of_ble_eq_true rfl) rfl rfl ?_
      refine sL (i := .goto (-38)) rfl rfl ?_
      refine sRo (ls := [some (.ref 7), some (.ref a), some (.ref b), some (.ref c), some (.ref e), some (.int (iI ((i + 1 : Nat) : Int)))]) (T := wKw S a 0 (i + 1) (fun r => f r && g r || !f r && h r)) (And.intro rfl (And.intro rfl (And.intro rfl (And.intro rfl (And.intro rfl (And.intro rfl (True.intro))))))) (congrArg sH (wKw_s (by omega) (by rw [pkw_not, pkw_and, pkw_and, pkw_or]))) (ih3 ?_)
      exact True.intro
  · have hI3 := hI3
    refine sL (pc' := 5) (i := .iload 5) rfl rfl ?_
    refine sKb (p := 7) rfl rfl ?_
    refine sIc_ge (p := 10) rfl rfl ⟨by omega, by omega⟩ ⟨by omega, by omega⟩ (fun c2 => ?_) (fun c2 => ?_)
    · have c2 := c2
      refine sEn (i := .return_) rfl (rfl) ?_
      exact ⟨rfl, congrArg sH (wKw_16 _ _ _ _)⟩
    · exact absurd c2 (by decide)
theorem c_markFixed (hv : vC S n sz) (hka : kd S a = some (.inl (2, 16))) (hkb : kd S b = some (.inl (2, 16))) (hab : b ≠ a) (hfa : rowS S a 0 f) (hgb : rowS S b 0 g) {v y : Nat} (hvv : v < n) (hy : y < sz v) : sM X 1 73 [.ref 7, .ref a, .ref b, .int (iI (v : Nat)), .int (iI (y : Nat))] S (sV none (wRw S a 0 (mk f (fun r => g (chg sz r v y)) (pr sz n)))) := by
  have hT0 := hv.1.2.2
  refine sIni (ls := [some (.ref 7), some (.ref a), some (.ref b), some (.int (iI ((v : Nat) : Int))), some (.int (iI ((y : Nat) : Int))), none, none]) rfl ?_
  refine sL (pc' := 1) (i := .aload_n 0) rfl rfl ?_
  refine sGc (p := 4) rfl rfl (sk_7 _) rfl rfl rfl ?_
  refine sL (pc' := 5) (i := .iload_n 3) rfl rfl ?_
  refine sCv (p := 8) (as := [_]) rfl rfl rfl rfl (by decide) (Nat.le_of_ble_eq_true rfl) rfl (Nat.le_of_ble_eq_true rfl) (sk_1 _) rfl (by omega) (c_str (S := S) hv (v := v) (by assumption)) ?_
  refine sL (pc' := 10) (i := .istore 5) (ls' := [some (.ref 7), some (.ref a), some (.ref b), some (.int (iI ((v : Nat) : Int))), some (.int (iI ((y : Nat) : Int))), some (.int (iI ((pr sz v : Nat) : Int))), none]) rfl rfl ?_
  refine sKi (p := 11) rfl rfl ?_
  refine sL (pc' := 13) (i := .istore 6) (ls' := [some (.ref 7), some (.ref a), some (.ref b), some (.int (iI ((v : Nat) : Int))), some (.int (iI ((y : Nat) : Int))), some (.int (iI ((pr sz v : Nat) : Int))), some (.int (iI 0))]) rfl rfl ?_
  refine sSh (T := wRw S a 0 (mk f (fun r => g (chg sz r v y)) 0)) (congrArg sH (mk_s hfa).symm) ?_
  refine sIt (A := fun i => [some (.ref 7), some (.ref a), some (.ref b), some (.int (iI ((v : Nat) : Int))), some (.int (iI ((y : Nat) : Int))), some (.int (iI ((pr sz v : Nat) : Int))), some (.int (iI ((i : Nat) : Int)))]) (B := fun i => wRw S a 0 (mk f (fun r => g (chg sz r v y)) i)) (fun _ => True) (pr sz n) True.intro (fun i hi13 hI13 ih13 => ?_) (fun hI13 => ?_)
  · have hi13 := hi13
    have hT := hv.1.2.2
    have hvu := hv.1.val hvv i
    have hsv := hv.1.2.1 v hvv
    have hcl := chg_lt hv.1 (r := i) hvv (show y < sz v by assumption) (by omega)
    refine sL (pc' := 15) (i := .iload 6) rfl rfl ?_
    refine sL (pc' := 16) (i := .aload_n 0) rfl rfl ?_
    refine sGc (p := 19) rfl rfl (sk_7 _) rfl rfl rfl ?_
    refine sGi (p := 22) rfl rfl (sk_1 _) rfl rfl rfl hv.2.2.1 ?_
    refine sIc_ge (p := 25) rfl rfl ⟨by omega, by omega⟩ ⟨by omega, by omega⟩ (fun c1 => ?_) (fun c1 => ?_)
    · exfalso; omega
    · have c1 := c1
      refine sL (pc' := 26) (i := .aload_n 2) rfl rfl ?_
      refine sL (pc' := 28) (i := .iload 6) rfl rfl ?_
      refine sL (pc' := 30) (i := .iload 4) rfl rfl ?_
      refine sL (pc' := 31) (i := .aload_n 0) rfl rfl ?_
      refine sGc (p := 34) rfl rfl (sk_7 _) rfl rfl rfl ?_
      refine sL (pc' := 36) (i := .iload 6) rfl rfl ?_
      refine sL (pc' := 37) (i := .iload_n 3) rfl rfl ?_
      refine sCv (p := 40) (as := [_, _]) rfl rfl rfl rfl (by decide) (Nat.le_of_ble_eq_true rfl) rfl (Nat.le_of_ble_eq_true rfl) (sk_1 _) rfl (by omega) (c_val (S := wRw S a 0 (mk f (fun r => g (chg sz r v y)) i)) hv (r := i) (v := v) (by omega) (by assumption)) ?_
      refine sSb (p := 41) rfl rfl ?_
      refine sL (pc' := 43) (i := .iload 5) rfl rfl ?_
      refine sMu (p := 44) rfl rfl ?_
      refine sAd (p := 45) rfl rfl ?_
      rw [show (((i : Nat) : Int) + ((((y : Nat) : Int) - ((val sz i v : Nat) : Int)) * ((pr sz v : Nat) : Int))) = ((chg sz i v y : Nat) : Int) from by exact chg_int _ _ _ _]
      refine sCs (p := 48) (as := [_, _]) rfl rfl rfl rfl (by decide) (Nat.le_of_ble_eq_true rfl) rfl (Nat.le_of_ble_eq_true rfl) rfl (by omega) (c_so (S := wRw S a 0 (mk f (fun r => g (chg sz r v y)) i)) (r := chg sz i v y) hkb (rowS_ne (Or.inl (hab)) hgb) (by omega)) ?_
      refine sBe (p := 51) rfl rfl (fun c2 => ?_) (fun c2 => ?_)
      · have c2 := c2
        refine sInX (z := ((i : Nat) : Int)) (ls' := [some (.ref 7), some (.ref a), some (.ref b), some (.int (iI ((v : Nat) : Int))), some (.int (iI ((y : Nat) : Int))), some (.int (iI ((pr sz v : Nat) : Int))), some (.int (iI (((i : Nat) : Int) + 1)))]) (p := 60) rfl rfl (Nat.le_of_ble_eq_true rfl) rfl rfl ?_
        refine sL (i := .goto (-47)) rfl rfl ?_
        refine sRo (ls := [some (.ref 7), some (.ref a), some (.ref b), some (.int (iI ((v : Nat) : Int))), some (.int (iI ((y : Nat) : Int))), some (.int (iI ((pr sz v : Nat) : Int))), some (.int (iI ((i + 1 : Nat) : Int)))]) (T := wRw S a 0 (mk f (fun r => g (chg sz r v y)) (i + 1))) (And.intro rfl (And.intro rfl (And.intro rfl (And.intro rfl (And.intro rfl (And.intro rfl (And.intro rfl (True.intro)))))))) (congrArg sH (mk_f (c2))) (ih13 ?_)
        exact True.intro
      · have c2 := c2
        refine sL (pc' := 52) (i := .aload_n 1) rfl rfl ?_
        refine sL (pc' := 54) (i := .iload 6) rfl rfl ?_
        refine sCs (p := 57) (as := [_, _]) rfl rfl rfl rfl (by decide) (Nat.le_of_ble_eq_true rfl) rfl (Nat.le_of_ble_eq_true rfl) rfl (by omega) (c_mark (S := wRw S a 0 (mk f (fun r => g (chg sz r v y)) i)) (r := i) (f := mk f _ i) hka (rowS_wRw _ _ _ _) (by omega)) ?_
        refine sInX (z := ((i : Nat) : Int)) (ls' := [some (.ref 7), some (.ref a), some (.ref b), some (.int (iI ((v : Nat) : Int))), some (.int (iI ((y : Nat) : Int))), some (.int (iI ((pr sz v : Nat) : Int))), some (.int (iI (((i : Nat) : Int) + 1)))]) (p := 60) rfl rfl (Nat.le_of_ble_eq_true rfl) rfl rfl ?_
        refine sL (i := .goto (-47)) rfl rfl ?_
        refine sRo (ls := [some (.ref 7), some (.ref a), some (.ref b), some (.int (iI ((v : Nat) : Int))), some (.int (iI ((y : Nat) : Int))), some (.int (iI ((pr sz v : Nat) : Int))), some (.int (iI ((i + 1 : Nat) : Int)))]) (T := wRw S a 0 (mk f (fun r => g (chg sz r v y)) (i + 1))) (And.intro rfl (And.intro rfl (And.intro rfl (And.intro rfl (And.intro rfl (And.intro rfl (And.intro rfl (True.intro)))))))) (congrArg sH (mk_t (c2))) (ih13 ?_)
        exact True.intro
  · have hI13 := hI13
    refine sL (pc' := 15) (i := .iload 6) rfl rfl ?_
    refine sL (pc' := 16) (i := .aload_n 0) rfl rfl ?_
    refine sGc (p := 19) rfl rfl (sk_7 _) rfl rfl rfl ?_
    refine sGi (p := 22) rfl rfl (sk_1 _) rfl rfl rfl hv.2.2.1 ?_
    refine sIc_ge (p := 25) rfl rfl ⟨by omega, by omega⟩ ⟨by omega, by omega⟩ (fun c3 => ?_) (fun c3 => ?_)
    · have c3 := c3
      refine sEn (i := .return_) rfl (rfl) ?_
      exact ⟨rfl, rfl⟩
    · exfalso; omega
theorem c_markReplaced (hv : vC S n sz) (hka : kd S a = some (.inl (2, 16))) (hkb : kd S b = some (.inl (2, 16))) (hkc : kd S c = some (.inl (2, 16))) (hab : b ≠ a) (hac : c ≠ a) (hfa : rowS S a 0 f) (hgb : rowS S b 0 g) (hhc : rowS S c 0 h) {v : Nat} (hvv : v < n) (h2 : sz v = 2) : sM X 1 76 [.ref 7, .ref a, .ref b, .int (iI (v : Nat)), .ref c] S (sV none (wRw S a 0 (mk f (fun r => g (chg sz r v (if h r then 1 else 0))) (pr sz n)))) := by
  have hT0 := hv.1.2.2
  refine sIni (ls := [some (.ref 7), some (.ref a), some (.ref b), some (.int (iI ((v : Nat) : Int))), some (.ref c), none, none, none]) rfl ?_
  refine sL (pc' := 1) (i := .aload_n 0) rfl rfl ?_
  refine sGc (p := 4) rfl rfl (sk_7 _) rfl rfl rfl ?_
  refine sL (pc' := 5) (i := .iload_n 3) rfl rfl ?_
  refine sCv (p := 8) (as := [_]) rfl rfl rfl rfl (by decide) (Nat.le_of_ble_eq_true rfl) rfl (Nat.le_of_ble_eq_true rfl) (sk_1 _) rfl (by omega) (c_str (S := S) hv (v := v) (by assumption)) ?_
  refine sL (pc' := 10) (i := .istore 5) (ls' := [some (.ref 7), some (.ref a), some (.ref b), some (.int (iI ((v : Nat) : Int))), some (.ref c), some (.int (iI ((pr sz v : Nat) : Int))), none, none]) rfl rfl ?_
  refine sKi (p := 11) rfl rfl ?_
  refine sL (pc' := 13) (i := .istore 6) (ls' := [some (.ref 7), some (.ref a), some (.ref b), some (.int (iI ((v : Nat) : Int))), some (.ref c), some (.int (iI ((pr sz v : Nat) : Int))), some (.int (iI 0)), none]) rfl rfl ?_
  refine sSh (T := wRw S a 0 (mk f (fun r => g (chg sz r v (if h r then 1 else 0))) 0)) (congrArg sH (mk_s hfa).symm) ?_
  refine sIt (A := fun i => [some (.ref 7), some (.ref a), some (.ref b), some (.int (iI ((v : Nat) : Int))), some (.ref c), some (.int (iI ((pr sz v : Nat) : Int))), some (.int (iI ((i : Nat) : Int))), none]) (B := fun i => wRw S a 0 (mk f (fun r => g (chg sz r v (if h r then 1 else 0))) i)) (fun _ => True) (pr sz n) True.intro (fun i hi13 hI13 ih13 => ?_) (fun hI13 => ?_)
  · have hi13 := hi13
    have hT := hv.1.2.2
    have hvu := hv.1.val hvv i
    have hcl := chg_lt hv.1 (r := i) hvv (show 0 < sz v by omega) (by omega)
    have hcl1 := chg_lt hv.1 (r := i) hvv (show 1 < sz v by omega) (by omega)
    refine sL (pc' := 15) (i := .iload 6) rfl rfl ?_
    refine sL (pc' := 16) (i := .aload_n 0) rfl rfl ?_
    refine sGc (p := 19) rfl rfl (sk_7 _) rfl rfl rfl ?_
    refine sGi (p := 22) rfl rfl (sk_1 _) rfl rfl rfl hv.2.2.1 ?_
    refine sIc_ge (p := 25) rfl rfl ⟨by omega, by omega⟩ ⟨by omega, by omega⟩ (fun c1 => ?_) (fun c1 => ?_)
    · exfalso; omega
    · have c1 := c1
      refine sL (pc' := 27) (i := .aload 4) rfl rfl ?_
      refine sL (pc' := 29) (i := .iload 6) rfl rfl ?_
      refine sCs (p := 32) (as := [_, _]) rfl rfl rfl rfl (by decide) (Nat.le_of_ble_eq_true rfl) rfl (Nat.le_of_ble_eq_true rfl) rfl (by omega) (c_so (S := wRw S a 0 (mk f (fun r => g (chg sz r v (if h r then 1 else 0))) i)) (r := i) hkc (rowS_ne (Or.inl (hac)) hhc) (by omega)) ?_
      refine sBe (p := 35) rfl rfl (fun c2 => ?_) (fun c2 => ?_)
      · have c2 := c2
        refine sKi (p := 40) rfl rfl ?_
        refine sL (pc' := 42) (i := .istore 7) (ls' := [some (.ref 7), some (.ref a), some (.ref b), some (.int (iI ((v : Nat) : Int))), some (.ref c), some (.int (iI ((pr sz v : Nat) : Int))), some (.int (iI ((i : Nat) : Int))), some (.int (iI 0))]) rfl rfl ?_
        refine sL (pc' := 43) (i := .aload_n 2) rfl rfl ?_
        refine sL (pc' := 45) (i := .iload 6) rfl rfl ?_
        refine sL (pc' := 47) (i := .iload 7) rfl rfl ?_
        refine sL (pc' := 48) (i := .aload_n 0) rfl rfl ?_
        refine sGc (p := 51) rfl rfl (sk_7 _) rfl rfl rfl ?_
        refine sL (pc' := 53) (i := .iload 6) rfl rfl ?_
        refine sL (pc' := 54) (i := .iload_n 3) rfl rfl ?_
        refine sCv (p := 57) (as := [_, _]) rfl rfl rfl rfl (by decide) (Nat.le_of_ble_eq_true rfl) rfl (Nat.le_of_ble_eq_true rfl) (sk_1 _) rfl (by omega) (c_val (S := wRw S a 0 (mk f (fun r => g (chg sz r v (if h r then 1 else 0))) i)) hv (r := i) (v := v) (by omega) (by assumption)) ?_
        refine sSb (p := 58) rfl rfl ?_
        refine sL (pc' := 60) (i := .iload 5) rfl rfl ?_
        refine sMu (p := 61) rfl rfl ?_
        refine sAd (p := 62) rfl rfl ?_
        rw [show (((i : Nat) : Int) + ((0 - ((val sz i v : Nat) : Int)) * ((pr sz v : Nat) : Int))) = ((chg sz i v 0 : Nat) : Int) from by exact chg_int _ _ _ _]
        refine sCs (p := 65) (as := [_, _]) rfl rfl rfl rfl (by decide) (Nat.le_of_ble_eq_true rfl) rfl (Nat.le_of_ble_eq_true rfl) rfl (by omega) (c_so (S := wRw S a 0 (mk f (fun r => g (chg sz r v (if h r then 1 else 0))) i)) (r := chg sz i v 0) hkb (rowS_ne (Or.inl (hab)) hgb) (by omega)) ?_
        refine sBe (p := 68) rfl rfl (fun c3 => ?_) (fun c3 => ?_)
        · have c3 := c3
          refine sInX (z := ((i : Nat) : Int)) (ls' := [some (.ref 7), some (.ref a), some (.ref b), some (.int (iI ((v : Nat) : Int))), some (.ref c), some (.int (iI ((pr sz v : Nat) : Int))), some (.int (iI (((i : Nat) : Int) + 1))), some (.int (iI 0))]) (p := 77) rfl rfl (Nat.le_of_ble_eq_true rfl) rfl rfl ?_
          refine sL (i := .goto (-64)) rfl rfl ?_
          refine sRo (ls := [some (.ref 7), some (.ref a), some (.ref b), some (.int (iI ((v : Nat) : Int))), some (.ref c), some (.int (iI ((pr sz v : Nat) : Int))), some (.int (iI ((i + 1 : Nat) : Int))), none]) (T := wRw S a 0 (mk f (fun r => g (chg sz r v (if h r then 1 else 0))) (i + 1))) (And.intro rfl (And.intro rfl (And.intro rfl (And.intro rfl (And.intro rfl (And.intro rfl (And.intro rfl (True.intro)))))))) (congrArg sH (mk_f (show g (chg sz i v (if h i then 1 else 0)) = false by rw [c2]; first | exact c3 | exact c4))) (ih13 ?_)
          exact True.intro
        · have c3 := c3
          refine sL (pc' := 69) (i := .aload_n 1) rfl rfl ?_
          refine sL (pc' := 71) (i := .iload 6) rfl rfl ?_
          refine sCs (p := 74) (as := [_, _]) rfl rfl rfl rfl (by decide) (Nat.le_of_ble_eq_true rfl) rfl (Nat.le_of_ble_eq_true rfl) rfl (by omega) (c_mark (S := wRw S a 0 (mk f (fun r => g (chg sz r v (if h r then 1 else 0))) i)) (r := i) (f := mk f _ i) hka (rowS_wRw _ _ _ _) (by omega)) ?_
          refine sInX (z := ((i : Nat) : Int)) (ls' := [some (.ref 7), some (.ref a), some (.ref b), some (.int (iI ((v : Nat) : Int))), some (.ref c), some (.int (iI ((pr sz v : Nat) : Int))), some (.int (iI (((i : Nat) : Int) + 1))), some (.int (iI 0))]) (p := 77) rfl rfl (Nat.le_of_ble_eq_true rfl) rfl rfl ?_
          refine sL (i := .goto (-64)) rfl rfl ?_
          refine sRo (ls := [some (.ref 7), some (.ref a), some (.ref b), some (.int (iI ((v : Nat) : Int))), some (.ref c), some (.int (iI ((pr sz v : Nat) : Int))), some (.int (iI ((i + 1 : Nat) : Int))), none]) (T := wRw S a 0 (mk f (fun r => g (chg sz r v (if h r then 1 else 0))) (i + 1))) (And.intro rfl (And.intro rfl (And.intro rfl (And.intro rfl (And.intro rfl (And.intro rfl (And.intro rfl (True.intro)))))))) (congrArg sH (mk_t (show g (chg sz i v (if h i then 1 else 0)) = true by rw [c2]; first | exact c3 | exact c4))) (ih13 ?_)
          exact True.intro
      · have c2 := c2
        refine sKi (p := 36) rfl rfl ?_
        refine sL (i := .goto 4) rfl rfl ?_
        refine sL (pc' := 42) (i := .istore 7) (ls' := [some (.ref 7), some (.ref a), some (.ref b), some (.int (iI ((v : Nat) : Int))), some (.ref c), some (.int (iI ((pr sz v : Nat) : Int))), some (.int (iI ((i : Nat) : Int))), some (.int (iI 1))]) rfl rfl ?_
        refine sL (pc' := 43) (i := .aload_n 2) rfl rfl ?_
        refine sL (pc' := 45) (i := .iload 6) rfl rfl ?_
        refine sL (pc' := 47) (i := .iload 7) rfl rfl ?_
        refine sL (pc' := 48) (i := .aload_n 0) rfl rfl ?_
        refine sGc (p := 51) rfl rfl (sk_7 _) rfl rfl rfl ?_
        refine sL (pc' := 53) (i := .iload 6) rfl rfl ?_
        refine sL (pc' := 54) (i := .iload_n 3) rfl rfl ?_
        refine sCv (p := 57) (as := [_, _]) rfl rfl rfl rfl (by decide) (Nat.le_of_ble_eq_true rfl) rfl (Nat.le_of_ble_eq_true rfl) (sk_1 _) rfl (by omega) (c_val (S := wRw S a 0 (mk f (fun r => g (chg sz r v (if h r then 1 else 0))) i)) hv (r := i) (v := v) (by omega) (by assumption)) ?_
        refine sSb (p := 58) rfl rfl ?_
        refine sL (pc' := 60) (i := .iload 5) rfl rfl ?_
        refine sMu (p := 61) rfl rfl ?_
        refine sAd (p := 62) rfl rfl ?_
        rw [show (((i : Nat) : Int) + ((1 - ((val sz i v : Nat) : Int)) * ((pr sz v : Nat) : Int))) = ((chg sz i v 1 : Nat) : Int) from by exact chg_int _ _ _ _]
        refine sCs (p := 65) (as := [_, _]) rfl rfl rfl rfl (by decide) (Nat.le_of_ble_eq_true rfl) rfl (Nat.le_of_ble_eq_true rfl) rfl (by omega) (c_so (S := wRw S a 0 (mk f (fun r => g (chg sz r v (if h r then 1 else 0))) i)) (r := chg sz i v 1) hkb (rowS_ne (Or.inl (hab)) hgb) (by omega)) ?_
        refine sBe (p := 68) rfl rfl (fun c4 => ?_) (fun c4 => ?_)
        · have c4 := c4
          refine sInX (z := ((i : Nat) : Int)) (ls' := [some (.ref 7), some (.ref a), some (.ref b), some (.int (iI ((v : Nat) : Int))), some (.ref c), some (.int (iI ((pr sz v : Nat) : Int))), some (.int (iI (((i : Nat) : Int) + 1))), some (.int (iI 1))]) (p := 77) rfl rfl (Nat.le_of_ble_eq_true rfl) rfl rfl ?_
          refine sL (i := .goto (-64)) rfl rfl ?_
          refine sRo (ls := [some (.ref 7), some (.ref a), some (.ref b), some (.int (iI ((v : Nat) : Int))), some (.ref c), some (.int (iI ((pr sz v : Nat) : Int))), some (.int (iI ((i + 1 : Nat) : Int))), none]) (T := wRw S a 0 (mk f (fun r => g (chg sz r v (if h r then 1 else 0))) (i + 1))) (And.intro rfl (And.intro rfl (And.intro rfl (And.intro rfl (And.intro rfl (And.intro rfl (And.intro rfl (True.intro)))))))) (congrArg sH (mk_f (show g (chg sz i v (if h i then 1 else 0)) = false by rw [c2]; first | exact c3 | exact c4))) (ih13 ?_)
          exact True.intro
        · have c4 := c4
          refine sL (pc' := 69) (i := .aload_n 1) rfl rfl ?_
          refine sL (pc' := 71) (i := .iload 6) rfl rfl ?_
          refine sCs (p := 74) (as := [_, _]) rfl rfl rfl rfl (by decide) (Nat.le_of_ble_eq_true rfl) rfl (Nat.le_of_ble_eq_true rfl) rfl (by omega) (c_mark (S := wRw S a 0 (mk f (fun r => g (chg sz r v (if h r then 1 else 0))) i)) (r := i) (f := mk f _ i) hka (rowS_wRw _ _ _ _) (by omega)) ?_
          refine sInX (z := ((i : Nat) : Int)) (ls' := [some (.ref 7), some (.ref a), some (.ref b), some (.int (iI ((v : Nat) : Int))), some (.ref c), some (.int (iI ((pr sz v : Nat) : Int))), some (.int (iI (((i : Nat) : Int) + 1))), some (.int (iI 1))]) (p := 77) rfl rfl (Nat.le_of_ble_eq_true rfl) rfl rfl ?_
          refine sL (i := .goto (-64)) rfl rfl ?_
          refine sRo (ls := [some (.ref 7), some (.ref a), some (.ref b), some (.int (iI ((v : Nat) : Int))), some (.ref c), some (.int (iI ((pr sz v : Nat) : Int))), some (.int (iI ((i + 1 : Nat) : Int))), none]) (T := wRw S a 0 (mk f (fun r => g (chg sz r v (if h r then 1 else 0))) (i + 1))) (And.intro rfl (And.intro rfl (And.intro rfl (And.intro rfl (And.intro rfl (And.intro rfl (And.intro rfl (True.intro)))))))) (congrArg sH (mk_t (show g (chg sz i v (if h i then 1 else 0)) = true by rw [c2]; first | exact c3 | exact c4))) (ih13 ?_)
          exact True.intro
  · have hI13 := hI13
    refine sL (pc' := 15) (i := .iload 6) rfl rfl ?_
    refine sL (pc' := 16) (i := .aload_n 0) rfl rfl ?_
    refine sGc (p := 19) rfl rfl (sk_7 _) rfl rfl rfl ?_
    refine sGi (p := 22) rfl rfl (sk_1 _) rfl rfl rfl hv.2.2.1 ?_
    refine sIc_ge (p := 25) rfl rfl ⟨by omega, by omega⟩ ⟨by omega, by omega⟩ (fun c5 => ?_) (fun c5 => ?_)
    · have c5 := c5
      refine sEn (i := .return_) rfl (rfl) ?_
      exact ⟨rfl, rfl⟩
    · exfalso; omega
def xch (sz : Nat → Nat) (r u v : Nat) : Nat := chg sz (chg sz r u (val sz r v)) v (val sz r u)
theorem xch_lt {n : Nat} {sz : Nat → Nat} (hw : wf n sz) {r u v : Nat} (hu : u < n) (hv : v < n) (e : sz u = sz v) (hr : r < pr sz n) : xch sz r u v < pr sz n := chg_lt hw hv (by have := hw.val hu r; omega) (chg_lt hw hu (by have := hw.val hv r; omega) hr)
theorem xch_int {n : Nat} {sz : Nat → Nat} (hw : wf n sz) {r u v : Nat} (hu : u < n) (hv : v < n) (e : sz u = sz v) : (r : Int) + (((val sz r v : Nat) : Int) - ((val sz r u : Nat) : Int)) * (((pr sz u : Nat) : Int) - ((pr sz v : Nat) : Int)) = ((xch sz r u v : Nat) : Int) := by
  have hy := hw.val hv r
  unfold xch
  rw [← chg_int, ← chg_int]
  by_cases c : u = v
  · subst c
    rw [chg_val]
    simp
  · rw [chg_ne hw hu (by omega) (Ne.symm c), Int.mul_sub]
    have e2 : ((val sz r u : Nat) : Int) - ((val sz r v : Nat) : Int) = - (((val sz r v : Nat) : Int) - ((val sz r u : Nat) : Int)) := by omega
    rw [e2, Int.neg_mul]
    omega
theorem c_markExchanged (hv : vC S n sz) (hka : kd S a = some (.inl (2, 16))) (hkb : kd S b = some (.inl (2, 16))) (hab : b ≠ a) (hfa : rowS S a 0 f) (hgb : rowS S b 0 g) {u v : Nat} (hu : u < n) (hvv : v < n) (he : sz u = sz v) : sM X 1 77 [.ref 7, .ref a, .ref b, .int (iI (u : Nat)), .int (iI (v : Nat))] S (sV none (wRw S a 0 (mk f (fun r => g (xch sz r u v)) (pr sz n)))) := by
  have hT0 := hv.1.2.2
  refine sIni (ls := [some (.ref 7), some (.ref a), some (.ref b), some (.int (iI ((u : Nat) : Int))), some (.int (iI ((v : Nat) : Int))), none, none, none]) rfl ?_
  refine sL (pc' := 1) (i := .aload_n 0) rfl rfl ?_
  refine sGc (p := 4) rfl rfl (sk_7 _) rfl rfl rfl ?_
  refine sL (pc' := 5) (i := .iload_n 3) rfl rfl ?_
  refine sCv (p := 8) (as := [_]) rfl rfl rfl rfl (by decide) (Nat.le_of_ble_eq_true rfl) rfl (Nat.le_of_ble_eq_true rfl) (sk_1 _) rfl (by omega) (c_str (S := S) hv (v := u) (by assumption)) ?_
  refine sL (pc' := 9) (i := .aload_n 0) rfl rfl ?_
  refine sGc (p := 12) rfl rfl (sk_7 _) rfl rfl rfl ?_
  refine sL (pc' := 14) (i := .iload 4) rfl rfl ?_
  refine sCv (p := 17) (as := [_]) rfl rfl rfl rfl (by decide) (Nat.le_of_ble_eq_true rfl) rfl (Nat.le_of_ble_eq_true rfl) (sk_1 _) rfl (by omega) (c_str (S := S) hv (v := v) (by assumption)) ?_
  refine sSb (p := 18) rfl rfl ?_
  refine sL (pc' := 20) (i := .istore 5) (ls' := [some (.ref 7), some (.ref a), some (.ref b), some (.int (iI ((u : Nat) : Int))), some (.int (iI ((v : Nat) : Int))), some (.int (iI (((pr sz u : Nat) : Int) - ((pr sz v : Nat) : Int)))), none, none]) rfl rfl ?_
  refine sKi (p := 21) rfl rfl ?_
  refine sL (pc' := 23) (i := .istore 6) (ls' := [some (.ref 7), some (.ref a), some (.ref b), some (.int (iI ((u : Nat) : Int))), some (.int (iI ((v : Nat) : Int))), some (.int (iI (((pr sz u : Nat) : Int) - ((pr sz v : Nat) : Int)))), some (.int (iI 0)), none]) rfl rfl ?_
  refine sSh (T := wRw S a 0 (mk f (fun r => g (xch sz r u v)) 0)) (congrArg sH (mk_s hfa).symm) ?_
  refine sIt (A := fun i => [some (.ref 7), some (.ref a), some (.ref b), some (.int (iI ((u : Nat) : Int))), some (.int (iI ((v : Nat) : Int))), some (.int (iI (((pr sz u : Nat) : Int) - ((pr sz v : Nat) : Int)))), some (.int (iI ((i : Nat) : Int))), none]) (B := fun i => wRw S a 0 (mk f (fun r => g (xch sz r u v)) i)) (fun _ => True) (pr sz n) True.intro (fun i hi23 hI23 ih23 => ?_) (fun hI23 => ?_)
  · have hi23 := hi23
    have hT := hv.1.2.2
    have hcl := xch_lt hv.1 (r := i) hu hvv he (by omega)
    refine sL (pc' := 25) (i := .iload 6) rfl rfl ?_
    refine sL (pc' := 26) (i := .aload_n 0) rfl rfl ?_
    refine sGc (p := 29) rfl rfl (sk_7 _) rfl rfl rfl ?_
    refine sGi (p := 32) rfl rfl (sk_1 _) rfl rfl rfl hv.2.2.1 ?_
    refine sIc_ge (p := 35) rfl rfl ⟨by omega, by omega⟩ ⟨by omega, by omega⟩ (fun c1 => ?_) (fun c1 => ?_)
    · exfalso; omega
    · have c1 := c1
      refine sL (pc' := 36) (i := .aload_n 0) rfl rfl ?_
      refine sGc (p := 39) rfl rfl (sk_7 _) rfl rfl rfl ?_
      refine sL (pc' := 41) (i := .iload 6) rfl rfl ?_
      refine sL (pc' := 43) (i := .iload 4) rfl rfl ?_
      refine sCv (p := 46) (as := [_, _]) rfl rfl rfl rfl (by decide) (Nat.le_of_ble_eq_true rfl) rfl (Nat.le_of_ble_eq_true rfl) (sk_1 _) rfl (by omega) (c_val (S := wRw S a 0 (mk f (fun r => g (xch sz r u v)) i)) hv (r := i) (v := v) (by omega) (by assumption)) ?_
      refine sL (pc' := 47) (i := .aload_n 0) rfl rfl ?_
      refine sGc (p := 50) rfl rfl (sk_7 _) rfl rfl rfl ?_
      refine sL (pc' := 52) (i := .iload 6) rfl rfl ?_
      refine sL (pc' := 53) (i := .iload_n 3) rfl rfl ?_
      refine sCv (p := 56) (as := [_, _]) rfl rfl rfl rfl (by decide) (Nat.le_of_ble_eq_true rfl) rfl (Nat.le_of_ble_eq_true rfl) (sk_1 _) rfl (by omega) (c_val (S := wRw S a 0 (mk f (fun r => g (xch sz r u v)) i)) hv (r := i) (v := u) (by omega) (by assumption)) ?_
      refine sSb (p := 57) rfl rfl ?_
      refine sL (pc' := 59) (i := .istore 7) (ls' := [some (.ref 7), some (.ref a), some (.ref b), some (.int (iI ((u : Nat) : Int))), some (.int (iI ((v : Nat) : Int))), some (.int (iI (((pr sz u : Nat) : Int) - ((pr sz v : Nat) : Int)))), some (.int (iI ((i : Nat) : Int))), some (.int (iI (((val sz i v : Nat) : Int) - ((val sz i u : Nat) : Int))))]) rfl rfl ?_
      refine sL (pc' := 60) (i := .aload_n 2) rfl rfl ?_
      refine sL (pc' := 62) (i := .iload 6) rfl rfl ?_
      refine sL (pc' := 64) (i := .iload 7) rfl rfl ?_
      refine sL (pc' := 66) (i := .iload 5) rfl rfl ?_
      refine sMu (p := 67) rfl rfl ?_
      refine sAd (p := 68) rfl rfl ?_
      rw [show (((i : Nat) : Int) + ((((val sz i v : Nat) : Int) - ((val sz i u : Nat) : Int)) * (((pr sz u : Nat) : Int) - ((pr sz v : Nat) : Int)))) = ((xch sz i u v : Nat) : Int) from by exact xch_int hv.1 hu hvv he]
      refine sCs (p := 71) (as := [_, _]) rfl rfl rfl rfl (by decide) (Nat.le_of_ble_eq_true rfl) rfl (Nat.le_of_ble_eq_true rfl) rfl (by omega) (c_so (S := wRw S a 0 (mk f (fun r => g (xch sz r u v)) i)) (r := xch sz i u v) hkb (rowS_ne (Or.inl (hab)) hgb) (by omega)) ?_
      refine sBe (p := 74) rfl rfl (fun c2 => ?_) (fun c2 => ?_)
      · have c2 := c2
        refine sInX (z := ((i : Nat) : Int)) (ls' := [some (.ref 7), some (.ref a), some (.ref b), some (.int (iI ((u : Nat) : Int))), some (.int (iI ((v : Nat) : Int))), some (.int (iI (((pr sz u : Nat) : Int) - ((pr sz v : Nat) : Int)))), some (.int (iI (((i : Nat) : Int) + 1))), some (.int (iI (((val sz i v : Nat) : Int) - ((val sz i u : Nat) : Int))))]) (p := 83) rfl rfl (Nat.le_of_ble_eq_true rfl) rfl rfl ?_
        refine sL (i := .goto (-60)) rfl rfl ?_
        refine sRo (ls := [some (.ref 7), some (.ref a), some (.ref b), some (.int (iI ((u : Nat) : Int))), some (.int (iI ((v : Nat) : Int))), some (.int (iI (((pr sz u : Nat) : Int) - ((pr sz v : Nat) : Int)))), some (.int (iI ((i + 1 : Nat) : Int))), none]) (T := wRw S a 0 (mk f (fun r => g (xch sz r u v)) (i + 1))) (And.intro rfl (And.intro rfl (And.intro rfl (And.intro rfl (And.intro rfl (And.intro rfl (And.intro rfl (True.intro)))))))) (congrArg sH (mk_f (c2))) (ih23 ?_)
        exact True.intro
      · have c2 := c2
        refine sL (pc' := 75) (i := .aload_n 1) rfl rfl ?_
        refine sL (pc' := 77) (i := .iload 6) rfl rfl ?_
        refine sCs (p := 80) (as := [_, _]) rfl rfl rfl rfl (by decide) (Nat.le_of_ble_eq_true rfl) rfl (Nat.le_of_ble_eq_true rfl) rfl (by omega) (c_mark (S := wRw S a 0 (mk f (fun r => g (xch sz r u v)) i)) (r := i) (f := mk f _ i) hka (rowS_wRw _ _ _ _) (by omega)) ?_
        refine sInX (z := ((i : Nat) : Int)) (ls' := [some (.ref 7), some (.ref a), some (.ref b), some (.int (iI ((u : Nat) : Int))), some (.int (iI ((v : Nat) : Int))), some (.int (iI (((pr sz u : Nat) : Int) - ((pr sz v : Nat) : Int)))), some (.int (iI (((i : Nat) : Int) + 1))), some (.int (iI (((val sz i v : Nat) : Int) - ((val sz i u : Nat) : Int))))]) (p := 83) rfl rfl (Nat.le_of_ble_eq_true rfl) rfl rfl ?_
        refine sL (i := .goto (-60)) rfl rfl ?_
        refine sRo (ls := [some (.ref 7), some (.ref a), some (.ref b), some (.int (iI ((u : Nat) : Int))), some (.int (iI ((v : Nat) : Int))), some (.int (iI (((pr sz u : Nat) : Int) - ((pr sz v : Nat) : Int)))), some (.int (iI ((i + 1 : Nat) : Int))), none]) (T := wRw S a 0 (mk f (fun r => g (xch sz r u v)) (i + 1))) (And.intro rfl (And.intro rfl (And.intro rfl (And.intro rfl (And.intro rfl (And.intro rfl (And.intro rfl (True.intro)))))))) (congrArg sH (mk_t (c2))) (ih23 ?_)
        exact True.intro
  · have hI23 := hI23
    refine sL (pc' := 25) (i := .iload 6) rfl rfl ?_
    refine sL (pc' := 26) (i := .aload_n 0) rfl rfl ?_
    refine sGc (p := 29) rfl rfl (sk_7 _) rfl rfl rfl ?_
    refine sGi (p := 32) rfl rfl (sk_1 _) rfl rfl rfl hv.2.2.1 ?_
    refine sIc_ge (p := 35) rfl rfl ⟨by omega, by omega⟩ ⟨by omega, by omega⟩ (fun c3 => ?_) (fun c3 => ?_)
    · have c3 := c3
      refine sEn (i := .return_) rfl (rfl) ?_
      exact ⟨rfl, rfl⟩
    · exfalso; omega
end RL
