/-! ===== the reference: variables and rows ===== -/
def vM (S : ST) (n : Nat) (sz : Nat → Nat) : Prop := wf n sz ∧ SI S 179 1 = n ∧ SI S 179 4 = (pr sz n : Nat) ∧ (∀ i, i < n → SI S 180 i = (sz i : Nat)) ∧ (∀ i, i < n → SI S 181 i = (pr sz i : Nat))
section M0
variable {X : List Int32} {S : ST} {n : Nat} {sz : Nat → Nat} {fn : Nat} {a o N : Nat} {f g h : Nat → Bool}
theorem m_in {x y z : Int} (hx : rl x) (hy : rl y) (hz : rl z) : sM X 0 162 [.long (lI x), .long (lI y), .long (lI z)] S (sV (some (.int (iI (bI (decide (y ≤ x ∧ x ≤ z)))))) S) := by
  refine sIni (ls := [some (.long (lI x)), none, some (.long (lI y)), none, some (.long (lI z)), none]) rfl ?_
  refine sL (pc' := 1) (i := .lload_n 0) rfl rfl ?_
  refine sL (pc' := 2) (i := .lload_n 2) rfl rfl ?_
  refine sLf_lt (p := 6) rfl rfl rfl hx hy (fun c1 => ?_) (fun c1 => ?_)
  · have c1 := c1
    refine sKi (p := 18) rfl rfl ?_
    refine sEn (i := .ireturn) rfl (rfl) ?_
    exact sV_f (by omega) rfl
  · have c1 := c1
    refine sL (pc' := 7) (i := .lload_n 0) rfl rfl ?_
    refine sL (pc' := 9) (i := .lload 4) rfl rfl ?_
    refine sLf_gt (p := 13) rfl rfl rfl hx hz (fun c2 => ?_) (fun c2 => ?_)
    · have c2 := c2
      refine sKi (p := 18) rfl rfl ?_
      refine sEn (i := .ireturn) rfl (rfl) ?_
      exact sV_f (by omega) rfl
    · have c2 := c2
      refine sKi (p := 14) rfl rfl ?_
      refine sL (i := .goto 4) rfl rfl ?_
      refine sEn (i := .ireturn) rfl (rfl) ?_
      exact sV_t (by omega) rfl
theorem rl_of {x : Int} (h : rg x) : rl x := ⟨by have := h.1; omega, by have := h.2; omega⟩
theorem dec_in {x : Int} {n : Nat} : decide (0 ≤ x ∧ x ≤ ((n : Nat) : Int) - 1) = decide (0 ≤ x ∧ x < n) := decide_eq_decide.mpr ⟨fun h => ⟨h.1, by omega⟩, fun h => ⟨h.1, by omega⟩⟩
theorem m_isVariable {x : Int} (hx : rg x) (hv : vM S n sz) : sM X 1 169 [.ref 179, .int (iI x)] S (sV (some (.int (iI (bI (decide (0 ≤ x ∧ x < n)))))) S) := by
  have hn := hv.1.1
  have x1 := hx.1
  have x2 := hx.2
  refine sIni (ls := [some (.ref 179), some (.int (iI x))]) rfl ?_
  refine sL (pc' := 1) (i := .iload_n 1) rfl rfl ?_
  refine sI2l (p := 2) rfl rfl ⟨by omega, by omega⟩ ?_
  refine sKj0 (p := 3) rfl rfl rfl ?_
  refine sL (pc' := 4) (i := .aload_n 0) rfl rfl ?_
  refine sGi (p := 7) rfl rfl (sk_179 _) rfl rfl rfl hv.2.1 ?_
  refine sKi (p := 8) rfl rfl ?_
  refine sSb (p := 9) rfl rfl ?_
  refine sI2l (p := 10) rfl rfl ⟨by omega, by omega⟩ ?_
  refine sCs (p := 13) (as := [_, _, _]) rfl rfl rfl rfl (by decide) (Nat.le_of_ble_eq_true rfl) rfl (Nat.le_of_ble_eq_true rfl) rfl (by omega) (m_in (x := x) (y := 0) (z := ((n : Nat) : Int) - 1) (rl_of hx) ⟨by omega, by omega⟩ ⟨by omega, by omega⟩) ?_
  refine sEz rfl rfl ?_
  exact ⟨by rw [dec_in], rfl⟩
theorem m_isFunction {x : Int} (hx : rg x) (hfn : SI S 179 9 = (fn : Nat)) (h40 : fn ≤ 40) : sM X 1 170 [.ref 179, .int (iI x)] S (sV (some (.int (iI (bI (decide (0 ≤ x ∧ x < fn)))))) S) := by
  have x1 := hx.1
  have x2 := hx.2
  refine sIni (ls := [some (.ref 179), some (.int (iI x))]) rfl ?_
  refine sL (pc' := 1) (i := .iload_n 1) rfl rfl ?_
  refine sI2l (p := 2) rfl rfl ⟨by omega, by omega⟩ ?_
  refine sKj0 (p := 3) rfl rfl rfl ?_
  refine sL (pc' := 4) (i := .aload_n 0) rfl rfl ?_
  refine sGi (p := 7) rfl rfl (sk_179 _) rfl rfl rfl hfn ?_
  refine sKi (p := 8) rfl rfl ?_
  refine sSb (p := 9) rfl rfl ?_
  refine sI2l (p := 10) rfl rfl ⟨by omega, by omega⟩ ?_
  refine sCs (p := 13) (as := [_, _, _]) rfl rfl rfl rfl (by decide) (Nat.le_of_ble_eq_true rfl) rfl (Nat.le_of_ble_eq_true rfl) rfl (by omega) (m_in (x := x) (y := 0) (z := ((fn : Nat) : Int) - 1) (rl_of hx) ⟨by omega, by omega⟩ ⟨by omega, by omega⟩) ?_
  refine sEz rfl rfl ?_
  exact ⟨by rw [dec_in], rfl⟩
theorem m_val (hv : vM S n sz) {r v : Nat} (hr : r < 2147483648) (hx : v < n) : sM X 0 167 [.ref 179, .int (iI r), .int (iI v)] S (sV (some (.int (iI (val sz r v : Nat)))) S) := by
  have hn := hv.1.1
  have hs := hv.1.2.1 v hx
  have hp := hv.1.pos (i := v) (by omega)
  have hp2 := hv.1.le2 (i := v) (by omega)
  have hdp : 0 ≤ (r : Int) / (pr sz v : Nat) := Int.ediv_nonneg (by omega) (by omega)
  have hdq : (r : Int) / (pr sz v : Nat) ≤ r := Int.ediv_le_self _ (by omega)
  refine sIni (ls := [some (.ref 179), some (.int (iI ((r : Nat) : Int))), some (.int (iI ((v : Nat) : Int)))]) rfl ?_
  refine sL (pc' := 1) (i := .iload_n 1) rfl rfl ?_
  refine sL (pc' := 2) (i := .aload_n 0) rfl rfl ?_
  refine sGc (p := 5) rfl rfl (sk_179 _) rfl rfl rfl ?_
  refine sL (pc' := 6) (i := .iload_n 2) rfl rfl ?_
  refine sAi (p := 7) (i := v) rfl rfl (sk_181 _) (by omega) ⟨by omega, by omega⟩ (hv.2.2.2.2 _ (by omega)) ?_
  refine sDv (p := 8) rfl rfl ⟨by omega, by omega⟩ ⟨by omega, by omega⟩ ?_
  refine sL (pc' := 9) (i := .aload_n 0) rfl rfl ?_
  refine sGc (p := 12) rfl rfl (sk_179 _) rfl rfl rfl ?_
  refine sL (pc' := 13) (i := .iload_n 2) rfl rfl ?_
  refine sAi (p := 14) (i := v) rfl rfl (sk_180 _) (by omega) ⟨by omega, by omega⟩ (hv.2.2.2.1 _ (by omega)) ?_
  refine sRm (p := 15) rfl rfl ⟨by omega, by omega⟩ ⟨by omega, by omega⟩ ?_
  refine sEn (i := .ireturn) rfl (rfl) ?_
  exact ⟨rfl, rfl⟩
theorem m_changed (hv : vM S n sz) {r v y : Nat} (hr : r < 2147483648) (hx : v < n) : sM X 1 168 [.ref 179, .int (iI r), .int (iI v), .int (iI y)] S (sV (some (.int (iI (chg sz r v y : Nat)))) S) := by
  have hn := hv.1.1
  refine sIni (ls := [some (.ref 179), some (.int (iI ((r : Nat) : Int))), some (.int (iI ((v : Nat) : Int))), some (.int (iI ((y : Nat) : Int)))]) rfl ?_
  refine sL (pc' := 1) (i := .iload_n 1) rfl rfl ?_
  refine sL (pc' := 2) (i := .iload_n 3) rfl rfl ?_
  refine sL (pc' := 3) (i := .aload_n 0) rfl rfl ?_
  refine sL (pc' := 4) (i := .iload_n 1) rfl rfl ?_
  refine sL (pc' := 5) (i := .iload_n 2) rfl rfl ?_
  refine sCv (p := 8) (as := [_, _]) rfl rfl rfl rfl (by decide) (Nat.le_of_ble_eq_true rfl) rfl (Nat.le_of_ble_eq_true rfl) (sk_179 _) rfl (by omega) (m_val (S := S) hv (r := r) (v := v) (by omega) (by assumption)) ?_
  refine sSb (p := 9) rfl rfl ?_
  refine sL (pc' := 10) (i := .aload_n 0) rfl rfl ?_
  refine sGc (p := 13) rfl rfl (sk_179 _) rfl rfl rfl ?_
  refine sL (pc' := 14) (i := .iload_n 2) rfl rfl ?_
  refine sAi (p := 15) (i := v) rfl rfl (sk_181 _) (by omega) ⟨by omega, by omega⟩ (hv.2.2.2.2 _ (by omega)) ?_
  refine sMu (p := 16) rfl rfl ?_
  refine sAd (p := 17) rfl rfl ?_
  refine sEn (i := .ireturn) rfl (rfl) ?_
  refine ⟨congrArg (fun z => some (Value.int (iI z))) ?_, rfl⟩
  exact chg_int sz r v y
theorem m_clear (hk : kd S a = some (.inl (2, N))) (hN : o + 16 ≤ N ∧ N < 1000000) : sM X 0 166 [.ref 179, .ref a, .int (iI (o : Nat))] S (sV none (wRw S a o (fun _ => false))) := by
  refine sIni (ls := [some (.ref 179), some (.ref a), some (.int (iI ((o : Nat) : Int))), none]) rfl ?_
  refine sKi (p := 1) rfl rfl ?_
  refine sL (pc' := 2) (i := .istore_n 3) (ls' := [some (.ref 179), some (.ref a), some (.int (iI ((o : Nat) : Int))), some (.int (iI 0))]) rfl rfl ?_
  refine sSh (T := wKw S a o 0 (fun _ => false)) (congrArg sH (wKw_0 _ _ _ _).symm) ?_
  refine sIt (A := fun i => [some (.ref 179), some (.ref a), some (.int (iI ((o : Nat) : Int))), some (.int (iI ((i : Nat) : Int)))]) (B := fun i => wKw S a o i (fun _ => false)) (fun _ => True) 16 True.intro (fun i hi2 hI2 ih2 => ?_) (fun hI2 => ?_)
  · have hi2 := hi2
    refine sL (pc' := 3) (i := .iload_n 3) rfl rfl ?_
    refine sKb (p := 5) rfl rfl ?_
    refine sIc_ge (p := 8) rfl rfl ⟨by omega, by omega⟩ ⟨by omega, by omega⟩ (fun c1 => ?_) (fun c1 => ?_)
    · exfalso; omega
    · have c1 := c1
      refine sL (pc' := 9) (i := .aload_n 1) rfl rfl ?_
      refine sL (pc' := 10) (i := .iload_n 2) rfl rfl ?_
      refine sL (pc' := 11) (i := .iload_n 3) rfl rfl ?_
      refine sAd (p := 12) rfl rfl ?_
      refine sKj0 (p := 13) rfl rfl rfl ?_
      refine sWl (p := 14) (i := o + i) rfl rfl hk (by omega) ⟨by omega, by omega⟩ ?_
      refine sInX (z := ((i : Nat) : Int)) (ls' := [some (.ref 179), some (.ref a), some (.int (iI ((o : Nat) : Int))), some (.int (iI (((i : Nat) : Int) + 1)))]) (p := 17) rfl rfl (Nat.le_of_ble_eq_true rfl) rfl rfl ?_
      refine sL (i := .goto (-15)) rfl rfl ?_
      refine sRo (ls := [some (.ref 179), some (.ref a), some (.int (iI ((o : Nat) : Int))), some (.int (iI ((i + 1 : Nat) : Int)))]) (T := wKw S a o (i + 1) (fun _ => false)) (And.intro rfl (And.intro rfl (And.intro rfl (And.intro rfl (True.intro))))) (congrArg sH (wKw_s rfl (by rw [pkw_0]; rfl))) (ih2 ?_)
      exact True.intro
  · have hI2 := hI2
    refine sL (pc' := 3) (i := .iload_n 3) rfl rfl ?_
    refine sKb (p := 5) rfl rfl ?_
    refine sIc_ge (p := 8) rfl rfl ⟨by omega, by omega⟩ ⟨by omega, by omega⟩ (fun c2 => ?_) (fun c2 => ?_)
    · have c2 := c2
      refine sEn (i := .return_) rfl (rfl) ?_
      exact ⟨rfl, congrArg sH (wKw_16 _ _ _ _)⟩
    · exact absurd c2 (by decide)
theorem wKw_o {S : ST} {a o b i k : Nat} {g h : Nat → Bool} (hb : b ≠ a) (hg : rowS S b 0 g) (hk : k < 16) : SL (wKw S a o i h) b k = pkw g k := by
  rw [SL_wKw, if_neg (fun z => hb z.1)]
  have := hg k hk
  rw [Nat.zero_add] at this
  exact this
theorem m_keep (hfn : SI S 179 9 = (fn : Nat)) (h40 : fn < 40) (hg : rowS S 186 0 g) : sM X 0 174 [.ref 179] S (sV (some (.int (iI (fn : Nat)))) (wI (wRw S 185 (16 * fn) g) 179 9 ((fn + 1 : Nat) : Int))) := by
  refine sIni (ls := [some (.ref 179), none]) rfl ?_
  refine sKi (p := 1) rfl rfl ?_
  refine sL (pc' := 2) (i := .istore_n 1) (ls' := [some (.ref 179), some (.int (iI 0))]) rfl rfl ?_
  refine sSh (T := wKw S 185 (16 * fn) 0 g) (congrArg sH (wKw_0 _ _ _ _).symm) ?_
  refine sIt (A := fun i => [some (.ref 179), some (.int (iI ((i : Nat) : Int)))]) (B := fun i => wKw S 185 (16 * fn) i g) (fun _ => True) 16 True.intro (fun i hi2 hI2 ih2 => ?_) (fun hI2 => ?_)
  · have hi2 := hi2
    refine sL (pc' := 3) (i := .iload_n 1) rfl rfl ?_
    refine sKb (p := 5) rfl rfl ?_
    refine sIc_ge (p := 8) rfl rfl ⟨by omega, by omega⟩ ⟨by omega, by omega⟩ (fun c1 => ?_) (fun c1 => ?_)
    · exfalso; omega
    · have c1 := c1
      refine sL (pc' := 9) (i := .aload_n 0) rfl rfl ?_
      refine sGc (p := 12) rfl rfl (sk_179 _) rfl rfl rfl ?_
      refine sKb (p := 14) rfl rfl ?_
      refine sL (pc' := 15) (i := .aload_n 0) rfl rfl ?_
      refine sGi (p := 18) rfl rfl (sk_179 _) rfl rfl rfl hfn ?_
      refine sMu (p := 19) rfl rfl ?_
      refine sL (pc' := 20) (i := .iload_n 1) rfl rfl ?_
      refine sAd (p := 21) rfl rfl ?_
      refine sL (pc' := 22) (i := .aload_n 0) rfl rfl ?_
      refine sGc (p := 25) rfl rfl (sk_179 _) rfl rfl rfl ?_
      refine sL (pc' := 26) (i := .iload_n 1) rfl rfl ?_
      refine sAl (p := 27) (i := i) rfl rfl (sk_186 _) (by omega) ⟨by omega, by omega⟩ (wKw_o (by decide) hg (by omega)) ?_
      refine sWl (p := 28) (i := (16 * fn) + i) rfl rfl (sk_185 _) (by omega) ⟨by omega, by omega⟩ ?_
      refine sInX (z := ((i : Nat) : Int)) (ls' := [some (.ref 179), some (.int (iI (((i : Nat) : Int) + 1)))]) (p := 31) rfl rfl (Nat.le_of_ble_eq_true rfl) rfl rfl ?_
      refine sL (i := .goto (-29)) rfl rfl ?_
      refine sRo (ls := [some (.ref 179), some (.int (iI ((i + 1 : Nat) : Int)))]) (T := wKw S 185 (16 * fn) (i + 1) g) (And.intro rfl (And.intro rfl (True.intro))) (congrArg sH (wKw_s rfl rfl)) (ih2 ?_)
      exact True.intro
  · have hI2 := hI2
    refine sL (pc' := 3) (i := .iload_n 1) rfl rfl ?_
    refine sKb (p := 5) rfl rfl ?_
    refine sIc_ge (p := 8) rfl rfl ⟨by omega, by omega⟩ ⟨by omega, by omega⟩ (fun c2 => ?_) (fun c2 => ?_)
    · have c2 := c2
      refine sL (pc' := 35) (i := .aload_n 0) rfl rfl ?_
      refine sL (pc' := 36) (i := .dup) rfl rfl ?_
      refine sGi (p := 39) rfl rfl (sk_179 _) rfl rfl rfl hfn ?_
      refine sKi (p := 40) rfl rfl ?_
      refine sAd (p := 41) rfl rfl ?_
      refine sPi (z := (((fn : Nat) : Int) + 1)) (p := 44) rfl rfl (sk_179 _) rfl rfl rfl rfl ?_
      refine sL (pc' := 45) (i := .aload_n 0) rfl rfl ?_
      refine sGi (p := 48) (z := (((fn : Nat) : Int) + 1)) rfl rfl (sk_179 _) rfl rfl rfl rfl ?_
      refine sKi (p := 49) rfl rfl ?_
      refine sSb (p := 50) rfl rfl ?_
      refine sEn (i := .ireturn) rfl (rfl) ?_
      refine ⟨congrArg (fun z => some (Value.int (iI z))) ?_, rfl⟩
      omega
    · exact absurd c2 (by decide)
theorem m_joined0 {x y : Int64} : sM X 0 178 [.int (iI 0), .long x, .long y] S (sV (some (.long (jw 0 x y))) S) := by
  refine sIni (ls := [some (.int (iI 0)), some (.long x), none, some (.long y), none]) rfl ?_
  refine sL (pc' := 1) (i := .iload_n 0) rfl rfl ?_
  refine sIf_ne (p := 4) rfl rfl ⟨by omega, by omega⟩ (fun c1 => ?_) (fun c1 => ?_)
  · exact absurd c1 (by decide)
  · have c1 := c1
    refine sL (pc' := 5) (i := .lload_n 1) rfl rfl ?_
    refine sL (pc' := 6) (i := .lload_n 3) rfl rfl ?_
    refine sL (pc' := 7) (i := .land) rfl rfl ?_
    refine sL (i := .goto 62) rfl rfl ?_
    refine sEn (i := .lreturn) rfl (rfl) ?_
    exact ⟨rfl, rfl⟩
theorem m_joined1 {x y : Int64} : sM X 0 178 [.int (iI 1), .long x, .long y] S (sV (some (.long (jw 1 x y))) S) := by
  refine sIni (ls := [some (.int (iI 1)), some (.long x), none, some (.long y), none]) rfl ?_
  refine sL (pc' := 1) (i := .iload_n 0) rfl rfl ?_
  refine sIf_ne (p := 4) rfl rfl ⟨by omega, by omega⟩ (fun c1 => ?_) (fun c1 => ?_)
  · have c1 := c1
    refine sL (pc' := 11) (i := .iload_n 0) rfl rfl ?_
    refine sKi (p := 12) rfl rfl ?_
    refine sIc_ne (p := 15) rfl rfl ⟨by omega, by omega⟩ ⟨by omega, by omega⟩ (fun c2 => ?_) (fun c2 => ?_)
    · exact absurd c2 (by decide)
    · have c2 := c2
      refine sL (pc' := 16) (i := .lload_n 1) rfl rfl ?_
      refine sL (pc' := 17) (i := .lload_n 3) rfl rfl ?_
      refine sL (pc' := 18) (i := .lor) rfl rfl ?_
      refine sL (i := .goto 51) rfl rfl ?_
      refine sEn (i := .lreturn) rfl (rfl) ?_
      exact ⟨rfl, rfl⟩
  · exact absurd c1 (by decide)
theorem m_joined2 {x y : Int64} : sM X 0 178 [.int (iI 2), .long x, .long y] S (sV (some (.long (jw 2 x y))) S) := by
  refine sIni (ls := [some (.int (iI 2)), some (.long x), none, some (.long y), none]) rfl ?_
  refine sL (pc' := 1) (i := .iload_n 0) rfl rfl ?_
  refine sIf_ne (p := 4) rfl rfl ⟨by omega, by omega⟩ (fun c1 => ?_) (fun c1 => ?_)
  · have c1 := c1
    refine sL (pc' := 11) (i := .iload_n 0) rfl rfl ?_
    refine sKi (p := 12) rfl rfl ?_
    refine sIc_ne (p := 15) rfl rfl ⟨by omega, by omega⟩ ⟨by omega, by omega⟩ (fun c2 => ?_) (fun c2 => ?_)
    · have c2 := c2
      refine sL (pc' := 22) (i := .iload_n 0) rfl rfl ?_
      refine sKi (p := 23) rfl rfl ?_
      refine sIc_ne (p := 26) rfl rfl ⟨by omega, by omega⟩ ⟨by omega, by omega⟩ (fun c3 => ?_) (fun c3 => ?_)
      · exact absurd c3 (by decide)
      · have c3 := c3
        refine sL (pc' := 27) (i := .lload_n 1) rfl rfl ?_
        refine sL (pc' := 28) (i := .lload_n 3) rfl rfl ?_
        refine sL (pc' := 29) (i := .lxor) rfl rfl ?_
        refine sL (i := .goto 40) rfl rfl ?_
        refine sEn (i := .lreturn) rfl (rfl) ?_
        exact ⟨rfl, rfl⟩
    · exact absurd c2 (by decide)
  · exact absurd c1 (by decide)
theorem m_joined3 {x y : Int64} : sM X 0 178 [.int (iI 3), .long x, .long y] S (sV (some (.long (jw 3 x y))) S) := by
  refine sIni (ls := [some (.int (iI 3)), some (.long x), none, some (.long y), none]) rfl ?_
  refine sL (pc' := 1) (i := .iload_n 0) rfl rfl ?_
  refine sIf_ne (p := 4) rfl rfl ⟨by omega, by omega⟩ (fun c1 => ?_) (fun c1 => ?_)
  · have c1 := c1
    refine sL (pc' := 11) (i := .iload_n 0) rfl rfl ?_
    refine sKi (p := 12) rfl rfl ?_
    refine sIc_ne (p := 15) rfl rfl ⟨by omega, by omega⟩ ⟨by omega, by omega⟩ (fun c2 => ?_) (fun c2 => ?_)
    · have c2 := c2
      refine sL (pc' := 22) (i := .iload_n 0) rfl rfl ?_
      refine sKi (p := 23) rfl rfl ?_
      refine sIc_ne (p := 26) rfl rfl ⟨by omega, by omega⟩ ⟨by omega, by omega⟩ (fun c3 => ?_) (fun c3 => ?_)
      · have c3 := c3
        refine sL (pc' := 33) (i := .iload_n 0) rfl rfl ?_
        refine sKi (p := 34) rfl rfl ?_
        refine sIc_ne (p := 37) rfl rfl ⟨by omega, by omega⟩ ⟨by omega, by omega⟩ (fun c4 => ?_) (fun c4 => ?_)
        · exact absurd c4 (by decide)
        · have c4 := c4
          refine sL (pc' := 38) (i := .lload_n 1) rfl rfl ?_
          refine sL (pc' := 41) (i := .ldc2_w 135) rfl rfl ?_
          refine sL (pc' := 42) (i := .lxor) rfl rfl ?_
          refine sL (pc' := 43) (i := .lload_n 3) rfl rfl ?_
          refine sL (pc' := 44) (i := .lor) rfl rfl ?_
          refine sL (i := .goto 25) rfl rfl ?_
          refine sEn (i := .lreturn) rfl (rfl) ?_
          exact ⟨rfl, rfl⟩
      · exact absurd c3 (by decide)
    · exact absurd c2 (by decide)
  · exact absurd c1 (by decide)
theorem m_joined4 {x y : Int64} : sM X 0 178 [.int (iI 4), .long x, .long y] S (sV (some (.long (jw 4 x y))) S) := by
  refine sIni (ls := [some (.int (iI 4)), some (.long x), none, some (.long y), none]) rfl ?_
  refine sL (pc' := 1) (i := .iload_n 0) rfl rfl ?_
  refine sIf_ne (p := 4) rfl rfl ⟨by omega, by omega⟩ (fun c1 => ?_) (fun c1 => ?_)
  · have c1 := c1
    refine sL (pc' := 11) (i := .iload_n 0) rfl rfl ?_
    refine sKi (p := 12) rfl rfl ?_
    refine sIc_ne (p := 15) rfl rfl ⟨by omega, by omega⟩ ⟨by omega, by omega⟩ (fun c2 => ?_) (fun c2 => ?_)
    · have c2 := c2
      refine sL (pc' := 22) (i := .iload_n 0) rfl rfl ?_
      refine sKi (p := 23) rfl rfl ?_
      refine sIc_ne (p := 26) rfl rfl ⟨by omega, by omega⟩ ⟨by omega, by omega⟩ (fun c3 => ?_) (fun c3 => ?_)
      · have c3 := c3
        refine sL (pc' := 33) (i := .iload_n 0) rfl rfl ?_
        refine sKi (p := 34) rfl rfl ?_
        refine sIc_ne (p := 37) rfl rfl ⟨by omega, by omega⟩ ⟨by omega, by omega⟩ (fun c4 => ?_) (fun c4 => ?_)
        · have c4 := c4
          refine sL (pc' := 48) (i := .iload_n 0) rfl rfl ?_
          refine sKi (p := 49) rfl rfl ?_
          refine sIc_ne (p := 52) rfl rfl ⟨by omega, by omega⟩ ⟨by omega, by omega⟩ (fun c5 => ?_) (fun c5 => ?_)
          · exact absurd c5 (by decide)
          · have c5 := c5
            refine sL (pc' := 53) (i := .lload_n 1) rfl rfl ?_
            refine sL (pc' := 54) (i := .lload_n 3) rfl rfl ?_
            refine sL (pc' := 55) (i := .lxor) rfl rfl ?_
            refine sL (pc' := 58) (i := .ldc2_w 135) rfl rfl ?_
            refine sL (pc' := 59) (i := .lxor) rfl rfl ?_
            refine sL (i := .goto 10) rfl rfl ?_
            refine sEn (i := .lreturn) rfl (rfl) ?_
            exact ⟨rfl, rfl⟩
        · exact absurd c4 (by decide)
      · exact absurd c3 (by decide)
    · exact absurd c2 (by decide)
  · exact absurd c1 (by decide)
theorem m_joined5 {x y : Int64} : sM X 0 178 [.int (iI 5), .long x, .long y] S (sV (some (.long (jw 5 x y))) S) := by
  refine sIni (ls := [some (.int (iI 5)), some (.long x), none, some (.long y), none]) rfl ?_
  refine sL (pc' := 1) (i := .iload_n 0) rfl rfl ?_
  refine sIf_ne (p := 4) rfl rfl ⟨by omega, by omega⟩ (fun c1 => ?_) (fun c1 => ?_)
  · have c1 := c1
    refine sL (pc' := 11) (i := .iload_n 0) rfl rfl ?_
    refine sKi (p := 12) rfl rfl ?_
    refine sIc_ne (p := 15) rfl rfl ⟨by omega, by omega⟩ ⟨by omega, by omega⟩ (fun c2 => ?_) (fun c2 => ?_)
    · have c2 := c2
      refine sL (pc' := 22) (i := .iload_n 0) rfl rfl ?_
      refine sKi (p := 23) rfl rfl ?_
      refine sIc_ne (p := 26) rfl rfl ⟨by omega, by omega⟩ ⟨by omega, by omega⟩ (fun c3 => ?_) (fun c3 => ?_)
      · have c3 := c3
        refine sL (pc' := 33) (i := .iload_n 0) rfl rfl ?_
        refine sKi (p := 34) rfl rfl ?_
        refine sIc_ne (p := 37) rfl rfl ⟨by omega, by omega⟩ ⟨by omega, by omega⟩ (fun c4 => ?_) (fun c4 => ?_)
        · have c4 := c4
          refine sL (pc' := 48) (i := .iload_n 0) rfl rfl ?_
          refine sKi (p := 49) rfl rfl ?_
          refine sIc_ne (p := 52) rfl rfl ⟨by omega, by omega⟩ ⟨by omega, by omega⟩ (fun c5 => ?_) (fun c5 => ?_)
          · have c5 := c5
            refine sL (pc' := 63) (i := .lload_n 1) rfl rfl ?_
            refine sL (pc' := 64) (i := .lload_n 3) rfl rfl ?_
            refine sL (pc' := 67) (i := .ldc2_w 135) rfl rfl ?_
            refine sL (pc' := 68) (i := .lxor) rfl rfl ?_
            refine sL (pc' := 69) (i := .land) rfl rfl ?_
            refine sEn (i := .lreturn) rfl (rfl) ?_
            exact ⟨rfl, rfl⟩
          · exact absurd c5 (by decide)
        · exact absurd c4 (by decide)
      · exact absurd c3 (by decide)
    · exact absurd c2 (by decide)
  · exact absurd c1 (by decide)
theorem m_joined {x y : Int64} : ∀ {op : Nat}, op ≤ 5 → sM X 0 178 [.int (iI (op : Nat)), .long x, .long y] S (sV (some (.long (jw op x y))) S)
  | 0, _ => m_joined0
  | 1, _ => m_joined1
  | 2, _ => m_joined2
  | 3, _ => m_joined3
  | 4, _ => m_joined4
  | 5, _ => m_joined5
  | _ + 6, h => absurd h (by omega)
theorem tr_s {S : ST} {a o i T : Nat} {f : Nat → Bool} (hr : T + i < 1024) : wL (wRw S a o (fun s => f s && !(decide (T ≤ s) && decide (s < T + i)))) a (o + (T + i) / 64) (pkw (fun s => f s && !(decide (T ≤ s) && decide (s < T + i))) ((T + i) / 64) &&& (tw ((T + i) % 64) ^^^ lN 18446744073709551615)) = wRw S a o (fun s => f s && !(decide (T ≤ s) && decide (s < T + (i + 1)))) := by
  rw [pkw_clr rfl, wL_row (rowS_wRw _ _ _ _) (by omega) (fun k _ hk => pkw_far' hk), wRw_wRw]
  refine wRw_eq (fun s _ => ?_)
  by_cases c : s = T + i
  · subst c
    rw [decide_eq_true (show T + i = T + i from rfl), decide_eq_true (show T ≤ T + i by omega), decide_eq_true (show T + i < T + (i + 1) by omega)]
    simp
  · rw [decide_eq_false c, show decide (s < T + i) = decide (s < T + (i + 1)) from decide_eq_decide.mpr ⟨fun _ => by omega, fun _ => by omega⟩]
    simp
theorem m_trim (hv : vM S n sz) (hk : kd S a = some (.inl (2, N))) (hN : o + 16 ≤ N ∧ N < 1000000) (hf : rowS S a o f) : sM X 0 179 [.ref 179, .ref a, .int (iI (o : Nat))] S (sV none (wRw S a o (fun r => f r && decide (r < pr sz n)))) := by
  have hT := hv.1.2.2
  refine sIni (ls := [some (.ref 179), some (.ref a), some (.int (iI ((o : Nat) : Int))), none]) rfl ?_
  refine sL (pc' := 1) (i := .aload_n 0) rfl rfl ?_
  refine sGi (p := 4) rfl rfl (sk_179 _) rfl rfl rfl hv.2.2.1 ?_
  refine sL (pc' := 5) (i := .istore_n 3) (ls' := [some (.ref 179), some (.ref a), some (.int (iI ((o : Nat) : Int))), some (.int (iI ((pr sz n : Nat) : Int)))]) rfl rfl ?_
  refine sFg (ls := [some (.ref 179), some (.ref a), some (.int (iI ((o : Nat) : Int))), some (.int (iI (((pr sz n : Nat) : Int) + ((0 : Nat) : Int))))]) (xx_ll_le (And.intro rfl (And.intro rfl (And.intro rfl (And.intro (congrArg (fun z => some (Value.int (iI z))) (by omega)) True.intro))))) ?_
  refine sSh (T := wRw S a o (fun s => f s && !(decide (pr sz n ≤ s) && decide (s < pr sz n + 0)))) (congrArg sH ((wRw_same hf).symm.trans (wRw_eq (fun r _ => by rw [show (decide (pr sz n ≤ r) && decide (r < pr sz n + 0)) = false from by rw [Bool.and_eq_false_iff]; by_cases c : pr sz n ≤ r; (right; exact decide_eq_false (by omega)); (left; exact decide_eq_false c)]; simp)))) ?_
  refine sIt (A := fun i => [some (.ref 179), some (.ref a), some (.int (iI ((o : Nat) : Int))), some (.int (iI (((pr sz n : Nat) : Int) + ((i : Nat) : Int))))]) (B := fun i => wRw S a o (fun s => f s && !(decide (pr sz n ≤ s) && decide (s < pr sz n + i)))) (fun _ => True) (1024 - pr sz n) True.intro (fun i hi5 hI5 ih5 => ?_) (fun hI5 => ?_)
  · have hi5 := hi5
    refine sL (pc' := 6) (i := .iload_n 3) rfl rfl ?_
    refine sKs (p := 9) rfl rfl ?_
    refine sIc_ge (p := 12) rfl rfl ⟨by omega, by omega⟩ ⟨by omega, by omega⟩ (fun c1 => ?_) (fun c1 => ?_)
    · exfalso; omega
    · have c1 := c1
      refine sL (pc' := 13) (i := .aload_n 1) rfl rfl ?_
      refine sL (pc' := 14) (i := .iload_n 2) rfl rfl ?_
      refine sL (pc' := 15) (i := .iload_n 3) rfl rfl ?_
      refine sKb (p := 17) rfl rfl ?_
      refine sSr 6 (p := 18) (z := (((pr sz n + i) / 64 : Nat) : Int)) rfl rfl ⟨by omega, by omega⟩ rfl (by decide) (by omega) ?_
      refine sAd (p := 19) rfl rfl ?_
      refine sL (pc' := 20) (i := .dup2) rfl rfl ?_
      refine sAl (p := 21) (i := o + (pr sz n + i) / 64) rfl rfl hk (by omega) ⟨by omega, by omega⟩ (rowS_wRw _ _ _ _ _ (by omega)) ?_
      refine sKj1 (p := 22) rfl rfl rfl ?_
      refine sL (pc' := 23) (i := .iload_n 3) rfl rfl ?_
      refine sKb (p := 25) rfl rfl ?_
      refine sAn 6 (p := 26) (z := (((pr sz n + i) % 64 : Nat) : Int)) rfl rfl rfl (by decide) (by omega) ?_
      refine sTw (p := 27) (j := (pr sz n + i) % 64) rfl rfl rfl (by omega) ?_
      refine sL (pc' := 30) (i := .ldc2_w 135) rfl rfl ?_
      refine sL (pc' := 31) (i := .lxor) rfl rfl ?_
      refine sL (pc' := 32) (i := .land) rfl rfl ?_
      refine sWl (p := 33) (i := o + (pr sz n + i) / 64) rfl rfl hk (by omega) ⟨by omega, by omega⟩ ?_
      refine sInX (z := (((pr sz n : Nat) : Int) + ((i : Nat) : Int))) (ls' := [some (.ref 179), some (.ref a), some (.int (iI ((o : Nat) : Int))), some (.int (iI ((((pr sz n : Nat) : Int) + ((i : Nat) : Int)) + (1))))]) (p := 36) rfl rfl (Nat.le_of_ble_eq_true rfl) rfl rfl ?_
      refine sL (i := .goto (-31)) rfl rfl ?_
      refine sRo (ls := [some (.ref 179), some (.ref a), some (.int (iI ((o : Nat) : Int))), some (.int (iI (((pr sz n : Nat) : Int) + ((i + 1 : Nat) : Int))))]) (T := wRw S a o (fun s => f s && !(decide (pr sz n ≤ s) && decide (s < pr sz n + (i + 1))))) (And.intro rfl (And.intro rfl (And.intro rfl (And.intro (congrArg (fun z => some (Value.int (iI z))) (by omega)) (True.intro))))) (congrArg sH (tr_s (by omega))) (ih5 ?_)
      exact True.intro
  · have hI5 := hI5
    refine sL (pc' := 6) (i := .iload_n 3) rfl rfl ?_
    refine sKs (p := 9) rfl rfl ?_
    refine sIc_ge (p := 12) rfl rfl ⟨by omega, by omega⟩ ⟨by omega, by omega⟩ (fun c2 => ?_) (fun c2 => ?_)
    · have c2 := c2
      refine sEn (i := .return_) rfl (rfl) ?_
      refine ⟨rfl, congrArg sH (wRw_eq (fun r hr => ?_))⟩
      rw [show pr sz n + (1024 - pr sz n) = 1024 from by omega, decide_eq_true hr, Bool.and_true]
      refine congrArg (fun b => f r && b) ?_
      by_cases c : r < pr sz n
      · rw [decide_eq_true c, decide_eq_false (by omega)]; rfl
      · rw [decide_eq_false c, decide_eq_true (by omega)]; rfl
    · exfalso; omega
end M0
