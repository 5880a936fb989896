/-! ===== the reference: alike, dependence, order of runs, least, weights, best, told ===== -/
def dpB (sz : Nat → Nat) (f : Nat → Bool) (v : Nat) : Nat → Bool := fun r => (f r != f (chg sz r v 0))
theorem rk_step {n : Nat} {sz : Nat → Nat} (hw : wf n sz) {r s v : Nat} (hv : v < n) (h : rk sz v r < rk sz v s) : rk sz (v + 1) r < rk sz (v + 1) s := by
  have hr := hw.val hv r
  show rk sz v r * sz v + val sz r v < rk sz v s * sz v + val sz s v
  have h2 : (rk sz v r + 1) * sz v ≤ rk sz v s * sz v := Nat.mul_le_mul_right _ h
  rw [Nat.add_mul, Nat.one_mul] at h2
  omega
theorem rk_up {n : Nat} {sz : Nat → Nat} (hw : wf n sz) {r s v : Nat} (h : rk sz v r < rk sz v s) : ∀ {m : Nat}, v ≤ m → m ≤ n → rk sz m r < rk sz m s
  | 0, h1, _ => by
    obtain rfl : v = 0 := by omega
    exact h
  | m + 1, h1, h2 => by
    by_cases c : v = m + 1
    · subst c
      exact h
    · exact rk_step hw (by omega) (rk_up hw h (m := m) (by omega) (by omega))
theorem rk_dig {n : Nat} {sz : Nat → Nat} (hw : wf n sz) {r s v : Nat} (hv : v < n) (e : rk sz v r = rk sz v s) (h : val sz r v < val sz s v) : rk sz n r < rk sz n s := rk_up hw (v := v + 1) (by
  show rk sz v r * sz v + val sz r v < rk sz v s * sz v + val sz s v
  rw [e]
  omega) (by omega) (Nat.le_refl n)
def lsM (sz : Nat → Nat) (n : Nat) (f : Nat → Bool) : Nat → Int
  | 0 => -1
  | i + 1 => if f i = true ∧ (lsM sz n f i = -1 ∨ rk sz n i < rk sz n (lsM sz n f i).toNat) then (i : Nat) else lsM sz n f i
theorem lsM_b {sz : Nat → Nat} {n : Nat} {f : Nat → Bool} : ∀ i, lsM sz n f i = -1 ∨ (0 ≤ lsM sz n f i ∧ lsM sz n f i < i)
  | 0 => Or.inl rfl
  | i + 1 => by
    have ih := lsM_b (sz := sz) (n := n) (f := f) i
    show (if f i = true ∧ (lsM sz n f i = -1 ∨ rk sz n i < rk sz n (lsM sz n f i).toNat) then ((i : Nat) : Int) else lsM sz n f i) = -1 ∨ _
    have e : lsM sz n f (i + 1) = (if f i = true ∧ (lsM sz n f i = -1 ∨ rk sz n i < rk sz n (lsM sz n f i).toNat) then ((i : Nat) : Int) else lsM sz n f i) := rfl
    rw [e]
    split <;> omega
def bsM (sz : Nat → Nat) (n : Nat) (f : Nat → Bool) (q : Nat → Int) : Nat → Int × Int
  | 0 => (-1, 0)
  | i + 1 => if (bsM sz n f q i).2 < (if f i then q i else 0) ∨ ((if f i then q i else 0) = (bsM sz n f q i).2 ∧ 0 < (if f i then q i else 0) ∧ rk sz n i < rk sz n (bsM sz n f q i).1.toNat) then (((i : Nat) : Int), (if f i then q i else 0)) else bsM sz n f q i
theorem bsM_b {sz : Nat → Nat} {n : Nat} {f : Nat → Bool} {q : Nat → Int} (hq : ∀ r, 0 ≤ q r ∧ q r ≤ 590490000000000) : ∀ i, (0 ≤ (bsM sz n f q i).2 ∧ (bsM sz n f q i).2 ≤ 590490000000000) ∧ ((bsM sz n f q i).1 = -1 ∨ (0 ≤ (bsM sz n f q i).1 ∧ (bsM sz n f q i).1 < i)) ∧ (0 < (bsM sz n f q i).2 → 0 ≤ (bsM sz n f q i).1)
  | 0 => ⟨⟨Int.le_refl _, by show (0 : Int) ≤ _; omega⟩, Or.inl rfl, fun h => absurd h (Int.lt_irrefl 0)⟩
  | i + 1 => by
    have ih := bsM_b (sz := sz) (n := n) (f := f) hq i
    have h1 : 0 ≤ (if f i then q i else 0) ∧ (if f i then q i else 0) ≤ 590490000000000 := by
      have := hq i
      split <;> omega
    have e : bsM sz n f q (i + 1) = (if (bsM sz n f q i).2 < (if f i then q i else 0) ∨ ((if f i then q i else 0) = (bsM sz n f q i).2 ∧ 0 < (if f i then q i else 0) ∧ rk sz n i < rk sz n (bsM sz n f q i).1.toNat) then (((i : Nat) : Int), (if f i then q i else 0)) else bsM sz n f q i) := rfl
    rw [e]
    by_cases c : (bsM sz n f q i).2 < (if f i then q i else 0) ∨ ((if f i then q i else 0) = (bsM sz n f q i).2 ∧ 0 < (if f i then q i else 0) ∧ rk sz n i < rk sz n (bsM sz n f q i).1.toNat)
    · rw [if_pos c]
      exact ⟨h1, Or.inr ⟨by show (0 : Int) ≤ (i : Int); omega, by show (i : Int) < ((i + 1 : Nat) : Int); omega⟩, fun _ => by show (0 : Int) ≤ (i : Int); omega⟩
    · rw [if_neg c]
      exact ⟨ih.1, by omega, ih.2.2⟩
section SAB
variable {X : List Int32} {d m pc p len q : Nat} {ns : Bool} {ls : xx_L} {r : List Value} {S : ST} {K : Nat → xx_L → List Value → ST → Prop}
theorem sNb {a b : Bool} (he : ((xt_P X).1 m).1 pc = some (.iand, len, q, ns)) (hp : pc + len = p) (kk : sT X d m p ls (.int (iI (bI (a && b))) :: r) S K) : sT X d m pc ls (.int (iI (bI b)) :: .int (iI (bI a)) :: r) S K := by
  subst hp
  have e : iI (bI a) &&& iI (bI b) = iI (bI (a && b)) := by cases a <;> cases b <;> decide
  rw [← e] at kk
  exact xv_loc he rfl kk
end SAB
def rAlike (fn : Nat) (f g : Nat → Bool) (x y : Int) : Int := if ¬ ((0 ≤ x ∧ x < fn) ∧ (0 ≤ y ∧ y < fn)) then -101 else bI (allB (fun k => decide (pkw f k = pkw g k)) 16)
abbrev okAlike (fn : Nat) (f g : Nat → Bool) (x y : Int) : Prop := ((0 ≤ x ∧ x < fn) ∧ (0 ≤ y ∧ y < fn))
def rDep (n fn : Nat) (sz : Nat → Nat) (f : Nat → Bool) (x y : Int) : Int := if ¬ ((0 ≤ x ∧ x < fn) ∧ (0 ≤ y ∧ y < n)) then -101 else bI (anyB (dpB sz f y.toNat) (pr sz n))
abbrev okDep (n fn : Nat) (sz : Nat → Nat) (f : Nat → Bool) (x y : Int) : Prop := ((0 ≤ x ∧ x < fn) ∧ (0 ≤ y ∧ y < n))
def rTold (n tn : Int) (tv : Nat → Int) (x : Int) : Int := if ¬ (0 ≤ x ∧ x < n) then -101 else if ¬ (x < tn) then -103 else tv x.toNat
abbrev okTold (n tn : Int) (tv : Nat → Int) (x : Int) : Prop := (0 ≤ x ∧ x < n) ∧ (x < tn)
section M3
variable {X : List Int32} {S : ST} {n : Nat} {sz : Nat → Nat} {fn : Nat} {a o N : Nat} {f g h : Nat → Bool} {Fn : Nat → Nat → Bool} {wt : Nat → Int} {ro : Nat → Bool}
theorem m_alike {x y : Int} (hfn : SI S 179 9 = (fn : Nat)) (h40 : fn ≤ 40) (hF : ∀ i, i < fn → rowS S 185 (16 * i) (Fn i)) (hx : rg x) (hy : rg y) : sM X 2 214 [.ref 179, .int (iI x), .int (iI y)] S (sV (some (.int (iI (rAlike fn (Fn x.toNat) (Fn y.toNat) x y)))) S) := by
  have x1 := hx.1
  have x2 := hx.2
  have y1 := hy.1
  have y2 := hy.2
  refine sIni (ls := [some (.ref 179), some (.int (iI x)), some (.int (iI y)), none, none]) rfl ?_
  refine sL (pc' := 1) (i := .aload_n 0) rfl rfl ?_
  refine sL (pc' := 2) (i := .iload_n 1) rfl rfl ?_
  refine sCv (p := 5) (as := [_]) rfl rfl rfl rfl (by decide) (Nat.le_of_ble_eq_true rfl) rfl (Nat.le_of_ble_eq_true rfl) (sk_179 _) rfl (by omega) (m_isFunction hx hfn h40) ?_
  refine sBe (p := 8) rfl rfl (fun c1 => ?_) (fun c1 => ?_)
  · have c1 := c1
    have c1 := of_decide_eq_false c1
    refine sKb (p := 18) rfl rfl ?_
    refine sEn (i := .ireturn) rfl (rfl) ?_
    refine ⟨congrArg (fun z => some (Value.int (iI z))) ?_, rfl⟩
    unfold rAlike
    rw [if_pos (by omega)]
  · have c1 := c1
    have c1 := of_decide_eq_true c1
    refine sL (pc' := 9) (i := .aload_n 0) rfl rfl ?_
    refine sL (pc' := 10) (i := .iload_n 2) rfl rfl ?_
    refine sCv (p := 13) (as := [_]) rfl rfl rfl rfl (by decide) (Nat.le_of_ble_eq_true rfl) rfl (Nat.le_of_ble_eq_true rfl) (sk_179 _) rfl (by omega) (m_isFunction hy hfn h40) ?_
    refine sBn (p := 16) rfl rfl (fun c2 => ?_) (fun c2 => ?_)
    · have c2 := c2
      have c2 := of_decide_eq_true c2
      obtain ⟨f0, rfl⟩ : ∃ f0 : Nat, x = (f0 : Int) := ⟨x.toNat, by omega⟩
      obtain ⟨f1, rfl⟩ : ∃ f1 : Nat, y = (f1 : Int) := ⟨y.toNat, by omega⟩
      have hf0 : f0 < fn := by omega
      have hf1 : f1 < fn := by omega
      refine sKi (p := 20) rfl rfl ?_
      refine sL (pc' := 21) (i := .istore_n 3) (ls' := [some (.ref 179), some (.int (iI ((f0 : Nat) : Int))), some (.int (iI ((f1 : Nat) : Int))), some (.int (iI 1)), none]) rfl rfl ?_
      refine sKi (p := 22) rfl rfl ?_
      refine sL (pc' := 24) (i := .istore 4) (ls' := [some (.ref 179), some (.int (iI ((f0 : Nat) : Int))), some (.int (iI ((f1 : Nat) : Int))), some (.int (iI 1)), some (.int (iI 0))]) rfl rfl ?_
      refine sIt (A := fun i => [some (.ref 179), some (.int (iI ((f0 : Nat) : Int))), some (.int (iI ((f1 : Nat) : Int))), some (.int (iI (bI (allB (fun k => decide (pkw (Fn f0) k = pkw (Fn f1) k)) i)))), some (.int (iI ((i : Nat) : Int)))]) (B := fun _ => S) (fun _ => True) 16 True.intro (fun i hi24 hI24 ih24 => ?_) (fun hI24 => ?_)
      · have hi24 := hi24
        refine sL (pc' := 26) (i := .iload 4) rfl rfl ?_
        refine sKb (p := 28) rfl rfl ?_
        refine sIc_ge (p := 31) rfl rfl ⟨by omega, by omega⟩ ⟨by omega, by omega⟩ (fun c3 => ?_) (fun c3 => ?_)
        · exfalso; omega
        · have c3 := c3
          refine sL (pc' := 32) (i := .iload_n 3) rfl rfl ?_
          refine sL (pc' := 33) (i := .aload_n 0) rfl rfl ?_
          refine sGc (p := 36) rfl rfl (sk_179 _) rfl rfl rfl ?_
          refine sKb (p := 38) rfl rfl ?_
          refine sL (pc' := 39) (i := .iload_n 1) rfl rfl ?_
          refine sMu (p := 40) rfl rfl ?_
          refine sL (pc' := 42) (i := .iload 4) rfl rfl ?_
          refine sAd (p := 43) rfl rfl ?_
          refine sAl (p := 44) (i := 16 * f0 + i) rfl rfl (sk_185 _) (by omega) ⟨by omega, by omega⟩ (hF f0 hf0 i (by omega)) ?_
          refine sL (pc' := 45) (i := .aload_n 0) rfl rfl ?_
          refine sGc (p := 48) rfl rfl (sk_179 _) rfl rfl rfl ?_
          refine sKb (p := 50) rfl rfl ?_
          refine sL (pc' := 51) (i := .iload_n 2) rfl rfl ?_
          refine sMu (p := 52) rfl rfl ?_
          refine sL (pc' := 54) (i := .iload 4) rfl rfl ?_
          refine sAd (p := 55) rfl rfl ?_
          refine sAl (p := 56) (i := 16 * f1 + i) rfl rfl (sk_185 _) (by omega) ⟨by omega, by omega⟩ (hF f1 hf1 i (by omega)) ?_
          refine sLq_ne (p := 60) rfl rfl rfl (fun c4 => ?_) (fun c4 => ?_)
          · have c4 := c4
            have h8 := c4
            refine sKi (p := 65) rfl rfl ?_
            refine sNb (p := 66) (a := allB (fun k => decide (pkw (Fn f0) k = pkw (Fn f1) k)) i) (b := false) rfl rfl ?_
            refine sL (pc' := 67) (i := .istore_n 3) (ls' := [some (.ref 179), some (.int (iI ((f0 : Nat) : Int))), some (.int (iI ((f1 : Nat) : Int))), some (.int (iI (bI ((allB (fun k => decide (pkw (Fn f0) k = pkw (Fn f1) k)) i) && false)))), some (.int (iI ((i : Nat) : Int)))]) rfl rfl ?_
            refine sInX (z := ((i : Nat) : Int)) (ls' := [some (.ref 179), some (.int (iI ((f0 : Nat) : Int))), some (.int (iI ((f1 : Nat) : Int))), some (.int (iI (bI ((allB (fun k => decide (pkw (Fn f0) k = pkw (Fn f1) k)) i) && false)))), some (.int (iI (((i : Nat) : Int) + 1)))]) (p := 70) rfl rfl (Nat.le_of_ble_eq_true rfl) rfl rfl ?_
            refine sL (i := .goto (-46)) rfl rfl ?_
            refine sRo (ls := [some (.ref 179), some (.int (iI ((f0 : Nat) : Int))), some (.int (iI ((f1 : Nat) : Int))), some (.int (iI (bI (allB (fun k => decide (pkw (Fn f0) k = pkw (Fn f1) k)) (i + 1))))), some (.int (iI ((i + 1 : Nat) : Int)))]) (T := _) (And.intro rfl (And.intro rfl (And.intro rfl (And.intro (congrArg (fun z => some (Value.int z)) (congrArg (fun b => iI (bI b)) (by show _ = (allB (fun k => decide (pkw (Fn f0) k = pkw (Fn f1) k)) i && decide (pkw (Fn f0) i = pkw (Fn f1) i)); rw [decide_eq_false h8]))) (And.intro rfl (True.intro)))))) (rfl) (ih24 ?_)
            exact True.intro
          · have c4 := c4
            have h8 := c4
            refine sKi (p := 61) rfl rfl ?_
            refine sL (i := .goto 4) rfl rfl ?_
            refine sNb (p := 66) (a := allB (fun k => decide (pkw (Fn f0) k = pkw (Fn f1) k)) i) (b := true) rfl rfl ?_
            refine sL (pc' := 67) (i := .istore_n 3) (ls' := [some (.ref 179), some (.int (iI ((f0 : Nat) : Int))), some (.int (iI ((f1 : Nat) : Int))), some (.int (iI (bI ((allB (fun k => decide (pkw (Fn f0) k = pkw (Fn f1) k)) i) && true)))), some (.int (iI ((i : Nat) : Int)))]) rfl rfl ?_
            refine sInX (z := ((i : Nat) : Int)) (ls' := [some (.ref 179), some (.int (iI ((f0 : Nat) : Int))), some (.int (iI ((f1 : Nat) : Int))), some (.int (iI (bI ((allB (fun k => decide (pkw (Fn f0) k = pkw (Fn f1) k)) i) && true)))), some (.int (iI (((i : Nat) : Int) + 1)))]) (p := 70) rfl rfl (Nat.le_of_ble_eq_true rfl) rfl rfl ?_
            refine sL (i := .goto (-46)) rfl rfl ?_
            refine sRo (ls := [some (.ref 179), some (.int (iI ((f0 : Nat) : Int))), some (.int (iI ((f1 : Nat) : Int))), some (.int (iI (bI (allB (fun k => decide (pkw (Fn f0) k = pkw (Fn f1) k)) (i + 1))))), some (.int (iI ((i + 1 : Nat) : Int)))]) (T := _) (And.intro rfl (And.intro rfl (And.intro rfl (And.intro (congrArg (fun z => some (Value.int z)) (congrArg (fun b => iI (bI b)) (by show _ = (allB (fun k => decide (pkw (Fn f0) k = pkw (Fn f1) k)) i && decide (pkw (Fn f0) i = pkw (Fn f1) i)); rw [decide_eq_true h8]))) (And.intro rfl (True.intro)))))) (rfl) (ih24 ?_)
            exact True.intro
      · have hI24 := hI24
        refine sL (pc' := 26) (i := .iload 4) rfl rfl ?_
        refine sKb (p := 28) rfl rfl ?_
        refine sIc_ge (p := 31) rfl rfl ⟨by omega, by omega⟩ ⟨by omega, by omega⟩ (fun c5 => ?_) (fun c5 => ?_)
        · have c5 := c5
          refine sL (pc' := 74) (i := .iload_n 3) rfl rfl ?_
          refine sBe (p := 77) rfl rfl (fun c6 => ?_) (fun c6 => ?_)
          · have c6 := c6
            have h9 := c6
            refine sKi (p := 82) rfl rfl ?_
            refine sEn (i := .ireturn) rfl (rfl) ?_
            refine ⟨congrArg (fun z => some (Value.int (iI z))) ?_, rfl⟩
            unfold rAlike
            rw [if_neg (by omega)]
            show _ = bI (allB (fun k => decide (pkw (Fn f0) k = pkw (Fn f1) k)) 16)
            rw [h9]
            rfl
          · have c6 := c6
            have h9 := c6
            refine sKi (p := 78) rfl rfl ?_
            refine sL (i := .goto 4) rfl rfl ?_
            refine sEn (i := .ireturn) rfl (rfl) ?_
            refine ⟨congrArg (fun z => some (Value.int (iI z))) ?_, rfl⟩
            unfold rAlike
            rw [if_neg (by omega)]
            show _ = bI (allB (fun k => decide (pkw (Fn f0) k = pkw (Fn f1) k)) 16)
            rw [h9]
            rfl
        · exact absurd c5 (by decide)
    · have c2 := c2
      have c2 := of_decide_eq_false c2
      refine sKb (p := 18) rfl rfl ?_
      refine sEn (i := .ireturn) rfl (rfl) ?_
      refine ⟨congrArg (fun z => some (Value.int (iI z))) ?_, rfl⟩
      unfold rAlike
      rw [if_pos (by omega)]
theorem m_isBy {v : Nat} (hv : vM S n sz) (hka : kd S a = some (.inl (2, N))) (hN : o + 16 ≤ N ∧ N < 1000000) (hf : rowS S a o f) (hvv : v < n) : sM X 2 215 [.ref 179, .ref a, .int (iI (o : Nat)), .int (iI (v : Nat))] S (sV (some (.int (iI (bI (anyB (dpB sz f v) (pr sz n)))))) S) := by
  have hn := hv.1.1
  have hT0 := hv.1.2.2
  have hs := hv.1.2.1 v hvv
  refine sIni (ls := [some (.ref 179), some (.ref a), some (.int (iI ((o : Nat) : Int))), some (.int (iI ((v : Nat) : Int))), none]) rfl ?_
  refine sKi (p := 1) rfl rfl ?_
  refine sL (pc' := 3) (i := .istore 4) (ls' := [some (.ref 179), some (.ref a), some (.int (iI ((o : Nat) : Int))), some (.int (iI ((v : Nat) : Int))), some (.int (iI 0))]) rfl rfl ?_
  refine sIt (A := fun i => [some (.ref 179), some (.ref a), some (.int (iI ((o : Nat) : Int))), some (.int (iI ((v : Nat) : Int))), some (.int (iI ((i : Nat) : Int)))]) (B := fun _ => S) (fun i => anyB (dpB sz f v) i = false) (pr sz n) rfl (fun i hi3 hI3 ih3 => ?_) (fun hI3 => ?_)
  · have hi3 := hi3
    have hcl := chg_lt hv.1 (r := i) hvv (show 0 < sz v by omega) hi3
    refine sL (pc' := 5) (i := .iload 4) rfl rfl ?_
    refine sL (pc' := 6) (i := .aload_n 0) rfl rfl ?_
    refine sGi (p := 9) rfl rfl (sk_179 _) rfl rfl rfl hv.2.2.1 ?_
    refine sIc_ge (p := 12) rfl rfl ⟨by omega, by omega⟩ ⟨by omega, by omega⟩ (fun c1 => ?_) (fun c1 => ?_)
    · exfalso; omega
    · have c1 := c1
      refine sL (pc' := 13) (i := .aload_n 1) rfl rfl ?_
      refine sL (pc' := 14) (i := .iload_n 2) rfl rfl ?_
      refine sL (pc' := 16) (i := .iload 4) rfl rfl ?_
      refine sCs (p := 19) (as := [_, _, _]) rfl rfl rfl rfl (by decide) (Nat.le_of_ble_eq_true rfl) rfl (Nat.le_of_ble_eq_true rfl) rfl (by omega) (c_get (r := i) hka hN hf (by omega)) ?_
      refine sL (pc' := 20) (i := .aload_n 1) rfl rfl ?_
      refine sL (pc' := 21) (i := .iload_n 2) rfl rfl ?_
      refine sL (pc' := 22) (i := .aload_n 0) rfl rfl ?_
      refine sL (pc' := 24) (i := .iload 4) rfl rfl ?_
      refine sL (pc' := 25) (i := .iload_n 3) rfl rfl ?_
      refine sKi (p := 26) rfl rfl ?_
      refine sCv (p := 29) (as := [_, _, _]) rfl rfl rfl rfl (by decide) (Nat.le_of_ble_eq_true rfl) rfl (Nat.le_of_ble_eq_true rfl) (sk_179 _) rfl (by omega) (m_changed (S := S) hv (r := i) (v := v) (y := 0) (by omega) (by assumption)) ?_
      refine sCs (p := 32) (as := [_, _, _]) rfl rfl rfl rfl (by decide) (Nat.le_of_ble_eq_true rfl) rfl (Nat.le_of_ble_eq_true rfl) rfl (by omega) (c_get (r := chg sz i v 0) hka hN hf (by omega)) ?_
      refine sIb_eq (p := 35) rfl rfl (fun c2 => ?_) (fun c2 => ?_)
      · have c2 := c2
        have ht : dpB sz f v i = false := by unfold dpB; rw [c2, bne_self_eq_false]
        refine sInX (z := ((i : Nat) : Int)) (ls' := [some (.ref 179), some (.ref a), some (.int (iI ((o : Nat) : Int))), some (.int (iI ((v : Nat) : Int))), some (.int (iI (((i : Nat) : Int) + 1)))]) (p := 40) rfl rfl (Nat.le_of_ble_eq_true rfl) rfl rfl ?_
        refine sL (i := .goto (-37)) rfl rfl ?_
        refine sRo (ls := [some (.ref 179), some (.ref a), some (.int (iI ((o : Nat) : Int))), some (.int (iI ((v : Nat) : Int))), some (.int (iI ((i + 1 : Nat) : Int)))]) (T := _) (And.intro rfl (And.intro rfl (And.intro rfl (And.intro rfl (And.intro rfl (True.intro)))))) (rfl) (ih3 ?_)
        show (anyB (dpB sz f v) i || dpB sz f v i) = false
        rw [hI3, ht]
        rfl
      · have c2 := c2
        have ht : dpB sz f v i = true := bne_iff_ne.mpr c2
        refine sKi (p := 36) rfl rfl ?_
        refine sEn (i := .ireturn) rfl (rfl) ?_
        exact ⟨by rw [show anyB (dpB sz f v) (pr sz n) = true from anyB_iff.mpr ⟨i, hi3, ht⟩]; rfl, rfl⟩
  · have hI3 := hI3
    refine sL (pc' := 5) (i := .iload 4) rfl rfl ?_
    refine sL (pc' := 6) (i := .aload_n 0) rfl rfl ?_
    refine sGi (p := 9) rfl rfl (sk_179 _) rfl rfl rfl hv.2.2.1 ?_
    refine sIc_ge (p := 12) rfl rfl ⟨by omega, by omega⟩ ⟨by omega, by omega⟩ (fun c3 => ?_) (fun c3 => ?_)
    · have c3 := c3
      refine sKi (p := 44) rfl rfl ?_
      refine sEn (i := .ireturn) rfl (rfl) ?_
      exact ⟨by rw [hI3]; rfl, rfl⟩
    · exfalso; omega
theorem m_depends {x y : Int} (hv : vM S n sz) (hfn : SI S 179 9 = (fn : Nat)) (h40 : fn ≤ 40) (hF : ∀ i, i < fn → rowS S 185 (16 * i) (Fn i)) (hx : rg x) (hy : rg y) : sM X 3 216 [.ref 179, .int (iI x), .int (iI y)] S (sV (some (.int (iI (rDep n fn sz (Fn x.toNat) x y)))) S) := by
  have hn := hv.1.1
  have hT0 := hv.1.2.2
  have x1 := hx.1
  have x2 := hx.2
  have y1 := hy.1
  have y2 := hy.2
  refine sIni (ls := [some (.ref 179), some (.int (iI x)), some (.int (iI y))]) rfl ?_
  refine sL (pc' := 1) (i := .aload_n 0) rfl rfl ?_
  refine sL (pc' := 2) (i := .iload_n 1) rfl rfl ?_
  refine sCv (p := 5) (as := [_]) rfl rfl rfl rfl (by decide) (Nat.le_of_ble_eq_true rfl) rfl (Nat.le_of_ble_eq_true rfl) (sk_179 _) rfl (by omega) (m_isFunction hx hfn h40) ?_
  refine sBe (p := 8) rfl rfl (fun c1 => ?_) (fun c1 => ?_)
  · have c1 := c1
    have c1 := of_decide_eq_false c1
    refine sKb (p := 18) rfl rfl ?_
    refine sEn (i := .ireturn) rfl (rfl) ?_
    refine ⟨congrArg (fun z => some (Value.int (iI z))) ?_, rfl⟩
    unfold rDep
    rw [if_pos (by omega)]
  · have c1 := c1
    have c1 := of_decide_eq_true c1
    refine sL (pc' := 9) (i := .aload_n 0) rfl rfl ?_
    refine sL (pc' := 10) (i := .iload_n 2) rfl rfl ?_
    refine sCv (p := 13) (as := [_]) rfl rfl rfl rfl (by decide) (Nat.le_of_ble_eq_true rfl) rfl (Nat.le_of_ble_eq_true rfl) (sk_179 _) rfl (by omega) (m_isVariable hy hv) ?_
    refine sBn (p := 16) rfl rfl (fun c2 => ?_) (fun c2 => ?_)
    · have c2 := c2
      have c2 := of_decide_eq_true c2
      obtain ⟨f0, rfl⟩ : ∃ f0 : Nat, x = (f0 : Int) := ⟨x.toNat, by omega⟩
      obtain ⟨v, rfl⟩ : ∃ v : Nat, y = (v : Int) := ⟨y.toNat, by omega⟩
      have hf0 : f0 < fn := by omega
      have hvv : v < n := by omega
      refine sL (pc' := 20) (i := .aload_n 0) rfl rfl ?_
      refine sL (pc' := 21) (i := .aload_n 0) rfl rfl ?_
      refine sGc (p := 24) rfl rfl (sk_179 _) rfl rfl rfl ?_
      refine sKb (p := 26) rfl rfl ?_
      refine sL (pc' := 27) (i := .iload_n 1) rfl rfl ?_
      refine sMu (p := 28) rfl rfl ?_
      refine sL (pc' := 29) (i := .iload_n 2) rfl rfl ?_
      refine sCv (p := 32) (as := [_, _, _]) rfl rfl rfl rfl (by decide) (Nat.le_of_ble_eq_true rfl) rfl (Nat.le_of_ble_eq_true rfl) (sk_179 _) rfl (by omega) (m_isBy hv (o := 16 * f0) (sk_185 _) ⟨by omega, by omega⟩ (hF f0 hf0) hvv) ?_
      refine sBe (p := 35) rfl rfl (fun c3 => ?_) (fun c3 => ?_)
      · have c3 := c3
        have h9 := c3
        refine sKi (p := 40) rfl rfl ?_
        refine sEn (i := .ireturn) rfl (rfl) ?_
        refine ⟨congrArg (fun z => some (Value.int (iI z))) ?_, rfl⟩
        unfold rDep
        rw [if_neg (by omega)]
        show _ = bI (anyB (dpB sz (Fn f0) v) (pr sz n))
        rw [h9]
        rfl
      · have c3 := c3
        have h9 := c3
        refine sKi (p := 36) rfl rfl ?_
        refine sL (i := .goto 4) rfl rfl ?_
        refine sEn (i := .ireturn) rfl (rfl) ?_
        refine ⟨congrArg (fun z => some (Value.int (iI z))) ?_, rfl⟩
        unfold rDep
        rw [if_neg (by omega)]
        show _ = bI (anyB (dpB sz (Fn f0) v) (pr sz n))
        rw [h9]
        rfl
    · have c2 := c2
      have c2 := of_decide_eq_false c2
      refine sKb (p := 18) rfl rfl ?_
      refine sEn (i := .ireturn) rfl (rfl) ?_
      refine ⟨congrArg (fun z => some (Value.int (iI z))) ?_, rfl⟩
      unfold rDep
      rw [if_pos (by omega)]
theorem m_isBefore {r s : Nat} (hv : vM S n sz) (hr : r < 2147483648) (hs : s < 2147483648) : sM X 1 217 [.ref 179, .int (iI (r : Nat)), .int (iI (s : Nat))] S (sV (some (.int (iI (bI (decide (rk sz n r < rk sz n s)))))) S) := by
  have hn := hv.1.1
  have hT0 := hv.1.2.2
  refine sIni (ls := [some (.ref 179), some (.int (iI ((r : Nat) : Int))), some (.int (iI ((s : Nat) : Int))), none]) rfl ?_
  refine sKi (p := 1) rfl rfl ?_
  refine sL (pc' := 2) (i := .istore_n 3) (ls' := [some (.ref 179), some (.int (iI ((r : Nat) : Int))), some (.int (iI ((s : Nat) : Int))), some (.int (iI 0))]) rfl rfl ?_
  refine sIt (A := fun v => [some (.ref 179), some (.int (iI ((r : Nat) : Int))), some (.int (iI ((s : Nat) : Int))), some (.int (iI ((v : Nat) : Int)))]) (B := fun _ => S) (fun v => ∀ u, u < v → val sz r u = val sz s u) n (fun u hu => absurd hu (by omega)) (fun v hi2 hI2 ih2 => ?_) (fun hI2 => ?_)
  · have hi2 := hi2
    have hvr := hv.1.val hi2 r
    have hvs := hv.1.val hi2 s
    have hsz := hv.1.2.1 v hi2
    refine sL (pc' := 3) (i := .iload_n 3) rfl rfl ?_
    refine sL (pc' := 4) (i := .aload_n 0) rfl rfl ?_
    refine sGi (p := 7) rfl rfl (sk_179 _) rfl rfl rfl hv.2.1 ?_
    refine sIc_ge (p := 10) rfl rfl ⟨by omega, by omega⟩ ⟨by omega, by omega⟩ (fun c1 => ?_) (fun c1 => ?_)
    · exfalso; omega
    · have c1 := c1
      refine sL (pc' := 11) (i := .aload_n 0) rfl rfl ?_
      refine sL (pc' := 12) (i := .iload_n 1) rfl rfl ?_
      refine sL (pc' := 13) (i := .iload_n 3) rfl rfl ?_
      refine sCv (p := 16) (as := [_, _]) rfl rfl rfl rfl (by decide) (Nat.le_of_ble_eq_true rfl) rfl (Nat.le_of_ble_eq_true rfl) (sk_179 _) rfl (by omega) (m_val (S := S) hv (r := r) (v := v) (by omega) (by assumption)) ?_
      refine sL (pc' := 17) (i := .aload_n 0) rfl rfl ?_
      refine sL (pc' := 18) (i := .iload_n 2) rfl rfl ?_
      refine sL (pc' := 19) (i := .iload_n 3) rfl rfl ?_
      refine sCv (p := 22) (as := [_, _]) rfl rfl rfl rfl (by decide) (Nat.le_of_ble_eq_true rfl) rfl (Nat.le_of_ble_eq_true rfl) (sk_179 _) rfl (by omega) (m_val (S := S) hv (r := s) (v := v) (by omega) (by assumption)) ?_
      refine sIc_eq (p := 25) rfl rfl ⟨by omega, by omega⟩ ⟨by omega, by omega⟩ (fun c2 => ?_) (fun c2 => ?_)
      · have c2 := c2
        refine sInX (z := ((v : Nat) : Int)) (ls' := [some (.ref 179), some (.int (iI ((r : Nat) : Int))), some (.int (iI ((s : Nat) : Int))), some (.int (iI (((v : Nat) : Int) + 1)))]) (p := 49) rfl rfl (Nat.le_of_ble_eq_true rfl) rfl rfl ?_
        refine sL (i := .goto (-47)) rfl rfl ?_
        refine sRo (ls := [some (.ref 179), some (.int (iI ((r : Nat) : Int))), some (.int (iI ((s : Nat) : Int))), some (.int (iI ((v + 1 : Nat) : Int)))]) (T := _) (And.intro rfl (And.intro rfl (And.intro rfl (And.intro rfl (True.intro))))) (rfl) (ih2 ?_)
        intro u hu
        by_cases c : u = v
        · subst c; omega
        · exact hI2 u (by omega)
      · have c2 := c2
        refine sL (pc' := 26) (i := .aload_n 0) rfl rfl ?_
        refine sL (pc' := 27) (i := .iload_n 1) rfl rfl ?_
        refine sL (pc' := 28) (i := .iload_n 3) rfl rfl ?_
        refine sCv (p := 31) (as := [_, _]) rfl rfl rfl rfl (by decide) (Nat.le_of_ble_eq_true rfl) rfl (Nat.le_of_ble_eq_true rfl) (sk_179 _) rfl (by omega) (m_val (S := S) hv (r := r) (v := v) (by omega) (by assumption)) ?_
        refine sL (pc' := 32) (i := .aload_n 0) rfl rfl ?_
        refine sL (pc' := 33) (i := .iload_n 2) rfl rfl ?_
        refine sL (pc' := 34) (i := .iload_n 3) rfl rfl ?_
        refine sCv (p := 37) (as := [_, _]) rfl rfl rfl rfl (by decide) (Nat.le_of_ble_eq_true rfl) rfl (Nat.le_of_ble_eq_true rfl) (sk_179 _) rfl (by omega) (m_val (S := S) hv (r := s) (v := v) (by omega) (by assumption)) ?_
        refine sIc_ge (p := 40) rfl rfl ⟨by omega, by omega⟩ ⟨by omega, by omega⟩ (fun c3 => ?_) (fun c3 => ?_)
        · have c3 := c3
          refine sKi (p := 45) rfl rfl ?_
          refine sEn (i := .ireturn) rfl (rfl) ?_
          exact sV_f (by have := rk_dig hv.1 hi2 (rk_c hI2).symm (show val sz s v < val sz r v by omega); omega) rfl
        · have c3 := c3
          refine sKi (p := 41) rfl rfl ?_
          refine sL (i := .goto 4) rfl rfl ?_
          refine sEn (i := .ireturn) rfl (rfl) ?_
          exact sV_t (rk_dig hv.1 hi2 (rk_c hI2) (by omega)) rfl
  · have hI2 := hI2
    refine sL (pc' := 3) (i := .iload_n 3) rfl rfl ?_
    refine sL (pc' := 4) (i := .aload_n 0) rfl rfl ?_
    refine sGi (p := 7) rfl rfl (sk_179 _) rfl rfl rfl hv.2.1 ?_
    refine sIc_ge (p := 10) rfl rfl ⟨by omega, by omega⟩ ⟨by omega, by omega⟩ (fun c4 => ?_) (fun c4 => ?_)
    · have c4 := c4
      refine sKi (p := 53) rfl rfl ?_
      refine sEn (i := .ireturn) rfl (rfl) ?_
      exact sV_f (by rw [rk_c hI2]; omega) rfl
    · exfalso; omega
def mTl (S : ST) (sz : Nat → Nat) (r : Nat) (n : Nat) : Nat → ST
  | 0 => wI S 179 19 (n : Nat)
  | v + 1 => wI (mTl S sz r n v) 191 v ((val sz r v : Nat) : Int)
theorem mTl_vM {r v : Nat} (h : vM S n sz) : vM (mTl S sz r n v) n sz := by
  induction v with
  | zero => exact h
  | succ v ih => exact ih
theorem m_tell {r : Nat} (hv : vM S n sz) (hr : r < 2147483648) : sM X 1 218 [.ref 179, .int (iI (r : Nat))] S (sV none (mTl S sz r n n)) := by
  have hn := hv.1.1
  have hT0 := hv.1.2.2
  refine sIni (ls := [some (.ref 179), some (.int (iI ((r : Nat) : Int))), none]) rfl ?_
  refine sL (pc' := 1) (i := .aload_n 0) rfl rfl ?_
  refine sL (pc' := 2) (i := .aload_n 0) rfl rfl ?_
  refine sGi (p := 5) rfl rfl (sk_179 _) rfl rfl rfl hv.2.1 ?_
  refine sPi (z := ((n : Nat) : Int)) (p := 8) rfl rfl (sk_179 _) rfl rfl rfl rfl ?_
  refine sKi (p := 9) rfl rfl ?_
  refine sL (pc' := 10) (i := .istore_n 2) (ls' := [some (.ref 179), some (.int (iI ((r : Nat) : Int))), some (.int (iI 0))]) rfl rfl ?_
  refine sIt (A := fun v => [some (.ref 179), some (.int (iI ((r : Nat) : Int))), some (.int (iI ((v : Nat) : Int)))]) (B := fun v => mTl S sz r n v) (fun _ => True) n True.intro (fun v hi10 hI10 ih10 => ?_) (fun hI10 => ?_)
  · have hi10 := hi10
    refine sL (pc' := 11) (i := .iload_n 2) rfl rfl ?_
    refine sL (pc' := 12) (i := .aload_n 0) rfl rfl ?_
    refine sGi (p := 15) rfl rfl (sk_179 _) rfl rfl rfl (mTl_vM hv).2.1 ?_
    refine sIc_ge (p := 18) rfl rfl ⟨by omega, by omega⟩ ⟨by omega, by omega⟩ (fun c1 => ?_) (fun c1 => ?_)
    · exfalso; omega
    · have c1 := c1
      refine sL (pc' := 19) (i := .aload_n 0) rfl rfl ?_
      refine sGc (p := 22) rfl rfl (sk_179 _) rfl rfl rfl ?_
      refine sL (pc' := 23) (i := .iload_n 2) rfl rfl ?_
      refine sL (pc' := 24) (i := .aload_n 0) rfl rfl ?_
      refine sL (pc' := 25) (i := .iload_n 1) rfl rfl ?_
      refine sL (pc' := 26) (i := .iload_n 2) rfl rfl ?_
      refine sCv (p := 29) (as := [_, _]) rfl rfl rfl rfl (by decide) (Nat.le_of_ble_eq_true rfl) rfl (Nat.le_of_ble_eq_true rfl) (sk_179 _) rfl (by omega) (m_val (mTl_vM hv) (r := r) (v := v) (by omega) hi10) ?_
      refine sWi (p := 30) (i := v) rfl rfl (sk_191 _) (by omega) ⟨by omega, by omega⟩ ?_
      refine sInX (z := ((v : Nat) : Int)) (ls' := [some (.ref 179), some (.int (iI ((r : Nat) : Int))), some (.int (iI (((v : Nat) : Int) + 1)))]) (p := 33) rfl rfl (Nat.le_of_ble_eq_true rfl) rfl rfl ?_
      refine sL (i := .goto (-23)) rfl rfl ?_
      refine sRo (ls := [some (.ref 179), some (.int (iI ((r : Nat) : Int))), some (.int (iI ((v + 1 : Nat) : Int)))]) (T := mTl S sz r n (v + 1)) (And.intro rfl (And.intro rfl (And.intro rfl (True.intro)))) (rfl) (ih10 ?_)
      exact True.intro
  · have hI10 := hI10
    refine sL (pc' := 11) (i := .iload_n 2) rfl rfl ?_
    refine sL (pc' := 12) (i := .aload_n 0) rfl rfl ?_
    refine sGi (p := 15) rfl rfl (sk_179 _) rfl rfl rfl (mTl_vM hv).2.1 ?_
    refine sIc_ge (p := 18) rfl rfl ⟨by omega, by omega⟩ ⟨by omega, by omega⟩ (fun c2 => ?_) (fun c2 => ?_)
    · have c2 := c2
      refine sEn (i := .return_) rfl (rfl) ?_
      exact ⟨rfl, rfl⟩
    · exfalso; omega
theorem m_least {x : Int} (hv : vM S n sz) (hfn : SI S 179 9 = (fn : Nat)) (h40 : fn ≤ 40) (hF : ∀ i, i < fn → rowS S 185 (16 * i) (Fn i)) (hx : rg x) : sM X 2 219 [.ref 179, .int (iI x)] S (sV (some (.int (iI (if ¬ (0 ≤ x ∧ x < fn) then -101 else if lsM sz n (Fn x.toNat) (pr sz n) = -1 then 0 else 1)))) (if (0 ≤ x ∧ x < fn) ∧ lsM sz n (Fn x.toNat) (pr sz n) ≠ -1 then mTl S sz (lsM sz n (Fn x.toNat) (pr sz n)).toNat n n else S)) := by
  have hn := hv.1.1
  have hT0 := hv.1.2.2
  have x1 := hx.1
  have x2 := hx.2
  refine sIni (ls := [some (.ref 179), some (.int (iI x)), none, none]) rfl ?_
  refine sL (pc' := 1) (i := .aload_n 0) rfl rfl ?_
  refine sL (pc' := 2) (i := .iload_n 1) rfl rfl ?_
  refine sCv (p := 5) (as := [_]) rfl rfl rfl rfl (by decide) (Nat.le_of_ble_eq_true rfl) rfl (Nat.le_of_ble_eq_true rfl) (sk_179 _) rfl (by omega) (m_isFunction hx hfn h40) ?_
  refine sBn (p := 8) rfl rfl (fun c1 => ?_) (fun c1 => ?_)
  · have c1 := c1
    have c1 := of_decide_eq_true c1
    obtain ⟨f0, rfl⟩ : ∃ f0 : Nat, x = (f0 : Int) := ⟨x.toNat, by omega⟩
    have hf0 : f0 < fn := by omega
    have ef : Fn ((f0 : Nat) : Int).toNat = Fn f0 := rfl
    refine sKi (p := 12) rfl rfl ?_
    refine sL (pc' := 13) (i := .istore_n 2) (ls' := [some (.ref 179), some (.int (iI ((f0 : Nat) : Int))), some (.int (iI (-1))), none]) rfl rfl ?_
    refine sKi (p := 14) rfl rfl ?_
    refine sL (pc' := 15) (i := .istore_n 3) (ls' := [some (.ref 179), some (.int (iI ((f0 : Nat) : Int))), some (.int (iI (-1))), some (.int (iI 0))]) rfl rfl ?_
    refine sIt (A := fun i => [some (.ref 179), some (.int (iI ((f0 : Nat) : Int))), some (.int (iI (lsM sz n (Fn f0) i))), some (.int (iI ((i : Nat) : Int)))]) (B := fun _ => S) (fun _ => True) (pr sz n) True.intro (fun i hi15 hI15 ih15 => ?_) (fun hI15 => ?_)
    · have hi15 := hi15
      have hls := lsM_b (sz := sz) (n := n) (f := Fn f0) i
      refine sL (pc' := 16) (i := .iload_n 3) rfl rfl ?_
      refine sL (pc' := 17) (i := .aload_n 0) rfl rfl ?_
      refine sGi (p := 20) rfl rfl (sk_179 _) rfl rfl rfl hv.2.2.1 ?_
      refine sIc_ge (p := 23) rfl rfl ⟨by omega, by omega⟩ ⟨by omega, by omega⟩ (fun c2 => ?_) (fun c2 => ?_)
      · exfalso; omega
      · have c2 := c2
        refine sL (pc' := 24) (i := .aload_n 0) rfl rfl ?_
        refine sGc (p := 27) rfl rfl (sk_179 _) rfl rfl rfl ?_
        refine sKb (p := 29) rfl rfl ?_
        refine sL (pc' := 30) (i := .iload_n 1) rfl rfl ?_
        refine sMu (p := 31) rfl rfl ?_
        refine sL (pc' := 32) (i := .iload_n 3) rfl rfl ?_
        refine sCs (p := 35) (as := [_, _, _]) rfl rfl rfl rfl (by decide) (Nat.le_of_ble_eq_true rfl) rfl (Nat.le_of_ble_eq_true rfl) rfl (by omega) (c_get (o := 16 * f0) (r := i) (sk_185 _) ⟨by omega, by omega⟩ (hF f0 hf0) (by omega)) ?_
        refine sBe (p := 38) rfl rfl (fun c3 => ?_) (fun c3 => ?_)
        · have c3 := c3
          have h8 := c3
          have hu : lsM sz n (Fn f0) (i + 1) = lsM sz n (Fn f0) i := if_neg (fun z => by rw [h8] at z; exact absurd z.1 (by decide))
          refine sL (pc' := 57) (i := .iload_n 2) rfl rfl ?_
          refine sL (pc' := 58) (i := .istore_n 2) (ls' := [some (.ref 179), some (.int (iI ((f0 : Nat) : Int))), some (.int (iI (lsM sz n (Fn f0) i))), some (.int (iI ((i : Nat) : Int)))]) rfl rfl ?_
          refine sInX (z := ((i : Nat) : Int)) (ls' := [some (.ref 179), some (.int (iI ((f0 : Nat) : Int))), some (.int (iI (lsM sz n (Fn f0) i))), some (.int (iI (((i : Nat) : Int) + 1)))]) (p := 61) rfl rfl (Nat.le_of_ble_eq_true rfl) rfl rfl ?_
          refine sL (i := .goto (-46)) rfl rfl ?_
          refine sRo (ls := [some (.ref 179), some (.int (iI ((f0 : Nat) : Int))), some (.int (iI (lsM sz n (Fn f0) (i + 1)))), some (.int (iI ((i + 1 : Nat) : Int)))]) (T := _) (And.intro rfl (And.intro rfl (And.intro (congrArg (fun z => some (Value.int z)) (congrArg iI (by rw [hu]))) (And.intro rfl (True.intro))))) (rfl) (ih15 ?_)
          exact True.intro
        · have c3 := c3
          have h8 := c3
          refine sL (pc' := 39) (i := .iload_n 2) rfl rfl ?_
          refine sKi (p := 40) rfl rfl ?_
          refine sIc_eq (p := 43) rfl rfl ⟨by omega, by omega⟩ ⟨by omega, by omega⟩ (fun c4 => ?_) (fun c4 => ?_)
          · have c4 := c4
            have hu : lsM sz n (Fn f0) (i + 1) = ((i : Nat) : Int) := if_pos ⟨h8, Or.inl c4⟩
            refine sL (pc' := 53) (i := .iload_n 3) rfl rfl ?_
            refine sL (i := .goto 4) rfl rfl ?_
            refine sL (pc' := 58) (i := .istore_n 2) (ls' := [some (.ref 179), some (.int (iI ((f0 : Nat) : Int))), some (.int (iI ((i : Nat) : Int))), some (.int (iI ((i : Nat) : Int)))]) rfl rfl ?_
            refine sInX (z := ((i : Nat) : Int)) (ls' := [some (.ref 179), some (.int (iI ((f0 : Nat) : Int))), some (.int (iI ((i : Nat) : Int))), some (.int (iI (((i : Nat) : Int) + 1)))]) (p := 61) rfl rfl (Nat.le_of_ble_eq_true rfl) rfl rfl ?_
            refine sL (i := .goto (-46)) rfl rfl ?_
            refine sRo (ls := [some (.ref 179), some (.int (iI ((f0 : Nat) : Int))), some (.int (iI (lsM sz n (Fn f0) (i + 1)))), some (.int (iI ((i + 1 : Nat) : Int)))]) (T := _) (And.intro rfl (And.intro rfl (And.intro (congrArg (fun z => some (Value.int z)) (congrArg iI (by rw [hu]))) (And.intro rfl (True.intro))))) (rfl) (ih15 ?_)
            exact True.intro
          · have c4 := c4
            have h7 := c4
            refine sL (pc' := 44) (i := .aload_n 0) rfl rfl ?_
            refine sL (pc' := 45) (i := .iload_n 3) rfl rfl ?_
            refine sL (pc' := 46) (i := .iload_n 2) rfl rfl ?_
            rw [show lsM sz n (Fn f0) i = (((lsM sz n (Fn f0) i).toNat : Nat) : Int) from by omega]
            refine sCv (p := 49) (as := [_, _]) rfl rfl rfl rfl (by decide) (Nat.le_of_ble_eq_true rfl) rfl (Nat.le_of_ble_eq_true rfl) (sk_179 _) rfl (by omega) (m_isBefore hv (r := i) (s := (lsM sz n (Fn f0) i).toNat) (by omega) (by omega)) ?_
            refine sBe (p := 52) rfl rfl (fun c5 => ?_) (fun c5 => ?_)
            · have c5 := c5
              have c5 := of_decide_eq_false c5
              have hu : lsM sz n (Fn f0) (i + 1) = lsM sz n (Fn f0) i := if_neg (fun z => by rcases z.2 with z | z; exact h7 z; exact c5 z)
              refine sL (pc' := 57) (i := .iload_n 2) rfl rfl ?_
              refine sL (pc' := 58) (i := .istore_n 2) (ls' := [some (.ref 179), some (.int (iI ((f0 : Nat) : Int))), some (.int (iI (((lsM sz n (Fn f0) i).toNat : Nat) : Int))), some (.int (iI ((i : Nat) : Int)))]) rfl rfl ?_
              refine sInX (z := ((i : Nat) : Int)) (ls' := [some (.ref 179), some (.int (iI ((f0 : Nat) : Int))), some (.int (iI (((lsM sz n (Fn f0) i).toNat : Nat) : Int))), some (.int (iI (((i : Nat) : Int) + 1)))]) (p := 61) rfl rfl (Nat.le_of_ble_eq_true rfl) rfl rfl ?_
              refine sL (i := .goto (-46)) rfl rfl ?_
              refine sRo (ls := [some (.ref 179), some (.int (iI ((f0 : Nat) : Int))), some (.int (iI (lsM sz n (Fn f0) (i + 1)))), some (.int (iI ((i + 1 : Nat) : Int)))]) (T := _) (And.intro rfl (And.intro rfl (And.intro (congrArg (fun z => some (Value.int z)) (congrArg iI (by rw [hu]; omega))) (And.intro rfl (True.intro))))) (rfl) (ih15 ?_)
              exact True.intro
            · have c5 := c5
              have c5 := of_decide_eq_true c5
              have hu : lsM sz n (Fn f0) (i + 1) = ((i : Nat) : Int) := if_pos ⟨h8, Or.inr c5⟩
              refine sL (pc' := 53) (i := .iload_n 3) rfl rfl ?_
              refine sL (i := .goto 4) rfl rfl ?_
              refine sL (pc' := 58) (i := .istore_n 2) (ls' := [some (.ref 179), some (.int (iI ((f0 : Nat) : Int))), some (.int (iI ((i : Nat) : Int))), some (.int (iI ((i : Nat) : Int)))]) rfl rfl ?_
              refine sInX (z := ((i : Nat) : Int)) (ls' := [some (.ref 179), some (.int (iI ((f0 : Nat) : Int))), some (.int (iI ((i : Nat) : Int))), some (.int (iI (((i : Nat) : Int) + 1)))]) (p := 61) rfl rfl (Nat.le_of_ble_eq_true rfl) rfl rfl ?_
              refine sL (i := .goto (-46)) rfl rfl ?_
              refine sRo (ls := [some (.ref 179), some (.int (iI ((f0 : Nat) : Int))), some (.int (iI (lsM sz n (Fn f0) (i + 1)))), some (.int (iI ((i + 1 : Nat) : Int)))]) (T := _) (And.intro rfl (And.intro rfl (And.intro (congrArg (fun z => some (Value.int z)) (congrArg iI (by rw [hu]))) (And.intro rfl (True.intro))))) (rfl) (ih15 ?_)
              exact True.intro
    · have hI15 := hI15
      have hls := lsM_b (sz := sz) (n := n) (f := Fn f0) (pr sz n)
      refine sL (pc' := 16) (i := .iload_n 3) rfl rfl ?_
      refine sL (pc' := 17) (i := .aload_n 0) rfl rfl ?_
      refine sGi (p := 20) rfl rfl (sk_179 _) rfl rfl rfl hv.2.2.1 ?_
      refine sIc_ge (p := 23) rfl rfl ⟨by omega, by omega⟩ ⟨by omega, by omega⟩ (fun c6 => ?_) (fun c6 => ?_)
      · have c6 := c6
        refine sL (pc' := 65) (i := .iload_n 2) rfl rfl ?_
        refine sKi (p := 66) rfl rfl ?_
        refine sIc_ne (p := 69) rfl rfl ⟨by omega, by omega⟩ ⟨by omega, by omega⟩ (fun c7 => ?_) (fun c7 => ?_)
        · have c7 := c7
          refine sL (pc' := 72) (i := .aload_n 0) rfl rfl ?_
          refine sL (pc' := 73) (i := .iload_n 2) rfl rfl ?_
          rw [show lsM sz n (Fn f0) (pr sz n) = (((lsM sz n (Fn f0) (pr sz n)).toNat : Nat) : Int) from by omega]
          refine sCv (p := 76) (as := [_]) rfl rfl rfl rfl (by decide) (Nat.le_of_ble_eq_true rfl) rfl (Nat.le_of_ble_eq_true rfl) (sk_179 _) rfl (by omega) (m_tell hv (r := (lsM sz n (Fn f0) (pr sz n)).toNat) (by omega)) ?_
          refine sKi (p := 77) rfl rfl ?_
          refine sEn (i := .ireturn) rfl (rfl) ?_
          exact ⟨by rw [if_neg (by omega), ef, if_neg (by omega)], by rw [ef, if_pos ⟨by omega, by omega⟩]⟩
        · have c7 := c7
          refine sKi (p := 70) rfl rfl ?_
          refine sEn (i := .ireturn) rfl (rfl) ?_
          exact ⟨by rw [if_neg (by omega), ef, if_pos (by omega)], by rw [ef, if_neg (fun z => by have := z.2; omega)]⟩
      · exfalso; omega
  · have c1 := c1
    have c1 := of_decide_eq_false c1
    refine sKb (p := 10) rfl rfl ?_
    refine sEn (i := .ireturn) rfl (rfl) ?_
    exact ⟨by rw [if_pos (by omega)], by rw [if_neg (fun z => by have := z.1; omega)]⟩
theorem m_weightOf {r : Nat} (hv : vM S n sz) (hw : wM S n wt ro) (hr : r < 2147483648) : sM X 1 220 [.ref 179, .int (iI (r : Nat))] S (sV (some (.long (lI (wq sz wt ro n r)))) S) := by
  have hn := hv.1.1
  have hT0 := hv.1.2.2
  refine sIni (ls := [some (.ref 179), some (.int (iI ((r : Nat) : Int))), none, none, none, none]) rfl ?_
  refine sKj1 (p := 1) rfl rfl rfl ?_
  refine sL (pc' := 2) (i := .lstore_n 2) (ls' := [some (.ref 179), some (.int (iI ((r : Nat) : Int))), some (.long (lI 1)), none, none, none]) rfl rfl ?_
  refine sKi (p := 3) rfl rfl ?_
  refine sL (pc' := 5) (i := .istore 4) (ls' := [some (.ref 179), some (.int (iI ((r : Nat) : Int))), some (.long (lI 1)), none, some (.int (iI 0)), none]) rfl rfl ?_
  refine sIt (A := fun v => [some (.ref 179), some (.int (iI ((r : Nat) : Int))), some (.long (lI (wq sz wt ro v r))), none, some (.int (iI ((v : Nat) : Int))), none]) (B := fun _ => S) (fun _ => True) n True.intro (fun v hi5 hI5 ih5 => ?_) (fun hI5 => ?_)
  · have hi5 := hi5
    have hvr := hv.1.val hi5 r
    have hsz := hv.1.2.1 v hi5
    refine sL (pc' := 7) (i := .iload 4) rfl rfl ?_
    refine sL (pc' := 8) (i := .aload_n 0) rfl rfl ?_
    refine sGi (p := 11) rfl rfl (sk_179 _) rfl rfl rfl hv.2.1 ?_
    refine sIc_ge (p := 14) rfl rfl ⟨by omega, by omega⟩ ⟨by omega, by omega⟩ (fun c1 => ?_) (fun c1 => ?_)
    · exfalso; omega
    · have c1 := c1
      refine sKb (p := 16) rfl rfl ?_
      refine sL (pc' := 18) (i := .iload 4) rfl rfl ?_
      refine sMu (p := 19) rfl rfl ?_
      refine sL (pc' := 20) (i := .aload_n 0) rfl rfl ?_
      refine sL (pc' := 21) (i := .iload_n 1) rfl rfl ?_
      refine sL (pc' := 23) (i := .iload 4) rfl rfl ?_
      refine sCv (p := 26) (as := [_, _]) rfl rfl rfl rfl (by decide) (Nat.le_of_ble_eq_true rfl) rfl (Nat.le_of_ble_eq_true rfl) (sk_179 _) rfl (by omega) (m_val (S := S) hv (r := r) (v := v) (by omega) (by assumption)) ?_
      refine sAd (p := 27) rfl rfl ?_
      refine sL (pc' := 29) (i := .istore 5) (ls' := [some (.ref 179), some (.int (iI ((r : Nat) : Int))), some (.long (lI (wq sz wt ro v r))), none, some (.int (iI ((v : Nat) : Int))), some (.int (iI ((6 * ((v : Nat) : Int)) + ((val sz r v : Nat) : Int))))]) rfl rfl ?_
      refine sL (pc' := 30) (i := .lload_n 2) rfl rfl ?_
      refine sL (pc' := 31) (i := .aload_n 0) rfl rfl ?_
      refine sGc (p := 34) rfl rfl (sk_179 _) rfl rfl rfl ?_
      refine sL (pc' := 36) (i := .iload 5) rfl rfl ?_
      refine sAb (p := 37) (i := v * 6 + val sz r v) rfl rfl (sk_183 _) (Or.inl rfl) (by omega) ⟨by omega, by omega⟩ (hw (v * 6 + val sz r v) (by omega)).2.1 ?_
      refine sBe (p := 40) rfl rfl (fun c2 => ?_) (fun c2 => ?_)
      · have c2 := c2
        have e9 : fac wt ro v (val sz r v) = wt (v * 6 + val sz r v) := by unfold fac; rw [c2]; rfl
        have hwv := (hw (v * 6 + val sz r v) (by omega)).2.2
        refine sL (pc' := 45) (i := .aload_n 0) rfl rfl ?_
        refine sGc (p := 48) rfl rfl (sk_179 _) rfl rfl rfl ?_
        refine sL (pc' := 50) (i := .iload 5) rfl rfl ?_
        refine sAi (p := 51) (i := v * 6 + val sz r v) rfl rfl (sk_182 _) (by omega) ⟨by omega, by omega⟩ (hw (v * 6 + val sz r v) (by omega)).1 ?_
        refine sI2l (p := 52) rfl rfl ⟨by omega, by omega⟩ ?_
        refine sL (pc' := 53) (i := .lmul) rfl rfl ?_
        refine sL (pc' := 54) (i := .lstore_n 2) (ls' := [some (.ref 179), some (.int (iI ((r : Nat) : Int))), some (.long ((lI (wq sz wt ro v r)) * (lI (wt (v * 6 + val sz r v))))), none, some (.int (iI ((v : Nat) : Int))), some (.int (iI ((6 * ((v : Nat) : Int)) + ((val sz r v : Nat) : Int))))]) rfl rfl ?_
        refine sInX (z := ((v : Nat) : Int)) (ls' := [some (.ref 179), some (.int (iI ((r : Nat) : Int))), some (.long ((lI (wq sz wt ro v r)) * (lI (wt (v * 6 + val sz r v))))), none, some (.int (iI (((v : Nat) : Int) + 1))), some (.int (iI ((6 * ((v : Nat) : Int)) + ((val sz r v : Nat) : Int))))]) (p := 57) rfl rfl (Nat.le_of_ble_eq_true rfl) rfl rfl ?_
        refine sL (i := .goto (-52)) rfl rfl ?_
        refine sRo (ls := [some (.ref 179), some (.int (iI ((r : Nat) : Int))), some (.long (lI (wq sz wt ro (v + 1) r))), none, some (.int (iI ((v + 1 : Nat) : Int))), none]) (T := _) (And.intro rfl (And.intro rfl (And.intro (congrArg (fun z => some (Value.long z)) (by rw [← e9, lI_mul]; rfl)) (And.intro rfl (True.intro))))) (rfl) (ih5 ?_)
        exact True.intro
      · have c2 := c2
        have e9 : fac wt ro v (val sz r v) = 0 := by unfold fac; rw [c2]; rfl
        refine sKj0 (p := 41) rfl rfl rfl ?_
        refine sL (i := .goto 11) rfl rfl ?_
        refine sL (pc' := 53) (i := .lmul) rfl rfl ?_
        refine sL (pc' := 54) (i := .lstore_n 2) (ls' := [some (.ref 179), some (.int (iI ((r : Nat) : Int))), some (.long ((lI (wq sz wt ro v r)) * (lI 0))), none, some (.int (iI ((v : Nat) : Int))), some (.int (iI ((6 * ((v : Nat) : Int)) + ((val sz r v : Nat) : Int))))]) rfl rfl ?_
        refine sInX (z := ((v : Nat) : Int)) (ls' := [some (.ref 179), some (.int (iI ((r : Nat) : Int))), some (.long ((lI (wq sz wt ro v r)) * (lI 0))), none, some (.int (iI (((v : Nat) : Int) + 1))), some (.int (iI ((6 * ((v : Nat) : Int)) + ((val sz r v : Nat) : Int))))]) (p := 57) rfl rfl (Nat.le_of_ble_eq_true rfl) rfl rfl ?_
        refine sL (i := .goto (-52)) rfl rfl ?_
        refine sRo (ls := [some (.ref 179), some (.int (iI ((r : Nat) : Int))), some (.long (lI (wq sz wt ro (v + 1) r))), none, some (.int (iI ((v + 1 : Nat) : Int))), none]) (T := _) (And.intro rfl (And.intro rfl (And.intro (congrArg (fun z => some (Value.long z)) (by rw [← e9, lI_mul]; rfl)) (And.intro rfl (True.intro))))) (rfl) (ih5 ?_)
        exact True.intro
  · have hI5 := hI5
    refine sL (pc' := 7) (i := .iload 4) rfl rfl ?_
    refine sL (pc' := 8) (i := .aload_n 0) rfl rfl ?_
    refine sGi (p := 11) rfl rfl (sk_179 _) rfl rfl rfl hv.2.1 ?_
    refine sIc_ge (p := 14) rfl rfl ⟨by omega, by omega⟩ ⟨by omega, by omega⟩ (fun c3 => ?_) (fun c3 => ?_)
    · have c3 := c3
      refine sL (pc' := 61) (i := .lload_n 2) rfl rfl ?_
      refine sEn (i := .lreturn) rfl (rfl) ?_
      exact ⟨rfl, rfl⟩
    · exfalso; omega
theorem m_told {x : Int} {tn : Int} {tv : Nat → Int} (hv : vM S n sz) (htn : SI S 179 19 = tn) (ht : ∀ i : Nat, (i : Int) < tn → SI S 191 i = tv i) (h10 : -1 ≤ tn ∧ tn ≤ 10) (hx : rg x) : sM X 2 222 [.ref 179, .int (iI x)] S (sV (some (.int (iI (rTold n tn tv x)))) S) := by
  have hn := hv.1.1
  have hT0 := hv.1.2.2
  have x1 := hx.1
  have x2 := hx.2
  refine sIni (ls := [some (.ref 179), some (.int (iI x))]) rfl ?_
  refine sL (pc' := 1) (i := .aload_n 0) rfl rfl ?_
  refine sL (pc' := 2) (i := .iload_n 1) rfl rfl ?_
  refine sCv (p := 5) (as := [_]) rfl rfl rfl rfl (by decide) (Nat.le_of_ble_eq_true rfl) rfl (Nat.le_of_ble_eq_true rfl) (sk_179 _) rfl (by omega) (m_isVariable hx hv) ?_
  refine sBn (p := 8) rfl rfl (fun c1 => ?_) (fun c1 => ?_)
  · have c1 := c1
    have c1 := of_decide_eq_true c1
    obtain ⟨v, rfl⟩ : ∃ v : Nat, x = (v : Int) := ⟨x.toNat, by omega⟩
    refine sL (pc' := 14) (i := .iload_n 1) rfl rfl ?_
    refine sL (pc' := 15) (i := .aload_n 0) rfl rfl ?_
    refine sGi (p := 18) rfl rfl (sk_179 _) rfl rfl rfl htn ?_
    refine sIc_lt (p := 21) rfl rfl ⟨by omega, by omega⟩ ⟨by omega, by omega⟩ (fun c2 => ?_) (fun c2 => ?_)
    · have c2 := c2
      refine sL (pc' := 27) (i := .aload_n 0) rfl rfl ?_
      refine sGc (p := 30) rfl rfl (sk_179 _) rfl rfl rfl ?_
      refine sL (pc' := 31) (i := .iload_n 1) rfl rfl ?_
      refine sAi (p := 32) (i := v) rfl rfl (sk_191 _) (by omega) ⟨by omega, by omega⟩ (ht v (by omega)) ?_
      refine sEn (i := .ireturn) rfl (rfl) ?_
      refine ⟨congrArg (fun z => some (Value.int (iI z))) ?_, rfl⟩
      unfold rTold
      rw [if_neg (by omega), if_neg (by omega)]
      all_goals rfl
    · have c2 := c2
      refine sKb (p := 23) rfl rfl ?_
      refine sL (i := .goto 9) rfl rfl ?_
      refine sEn (i := .ireturn) rfl (rfl) ?_
      refine ⟨congrArg (fun z => some (Value.int (iI z))) ?_, rfl⟩
      unfold rTold
      rw [if_neg (by omega), if_pos (by omega)]
      all_goals rfl
  · have c1 := c1
    have c1 := of_decide_eq_false c1
    refine sKb (p := 10) rfl rfl ?_
    refine sL (i := .goto 22) rfl rfl ?_
    refine sEn (i := .ireturn) rfl (rfl) ?_
    refine ⟨congrArg (fun z => some (Value.int (iI z))) ?_, rfl⟩
    unfold rTold
    rw [if_pos (by omega)]
    all_goals rfl
end M3
