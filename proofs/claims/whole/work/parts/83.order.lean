/-! ===== runs in their order ===== -/
/-- the rank of a run: the first variable counts most -/
def rk (sz : Nat → Nat) : Nat → Nat → Nat
  | 0, _ => 0
  | v + 1, r => rk sz v r * sz v + val sz r v
/-- digits before v are kept -/
theorem rk_c {sz : Nat → Nat} {r s : Nat} : ∀ {v : Nat}, (∀ u, u < v → val sz r u = val sz s u) → rk sz v r = rk sz v s
  | 0, _ => rfl
  | v + 1, h => by
    show rk sz v r * sz v + val sz r v = rk sz v s * sz v + val sz s v
    rw [rk_c (fun u hu => h u (by omega)), h v (by omega)]
theorem rk_lt {n : Nat} {sz : Nat → Nat} (hw : wf n sz) (r : Nat) : ∀ {v : Nat}, v ≤ n → rk sz v r < pr sz v
  | 0, _ => Nat.one_pos
  | v + 1, h => by
    have ih := rk_lt hw r (v := v) (by omega)
    have h1 := hw.val (v := v) (by omega) r
    show rk sz v r * sz v + val sz r v < pr sz v * sz v
    have h2 : (rk sz v r + 1) * sz v ≤ pr sz v * sz v := Nat.mul_le_mul_right _ ih
    rw [Nat.add_mul, Nat.one_mul] at h2
    omega
theorem rk_inj {n : Nat} {sz : Nat → Nat} (hw : wf n sz) {r s : Nat} : ∀ {v : Nat}, v ≤ n → rk sz v r = rk sz v s → ∀ u, u < v → val sz r u = val sz s u
  | 0, _, _, u, hu => absurd hu (by omega)
  | v + 1, h, e, u, hu => by
    have hr := hw.val (v := v) (by omega) r
    have hs := hw.val (v := v) (by omega) s
    have e : rk sz v r * sz v + val sz r v = rk sz v s * sz v + val sz s v := e
    have hp : 0 < sz v := by omega
    have e1 : rk sz v r = rk sz v s := by
      have := congrArg (· / sz v) e
      simp only [Nat.mul_comm _ (sz v), Nat.mul_add_div hp, Nat.div_eq_of_lt hr, Nat.div_eq_of_lt hs, Nat.add_zero] at this
      exact this
    by_cases c : u = v
    · subst c
      rw [e1] at e
      omega
    · exact rk_inj hw (v := v) (by omega) e1 u (by omega)
theorem rk_eq {n : Nat} {sz : Nat → Nat} (hw : wf n sz) {r s : Nat} (hr : r < pr sz n) (hs : s < pr sz n) (e : rk sz n r = rk sz n s) : r = s := run_ext hr hs (rk_inj hw (Nat.le_refl n) e)
/-- the run behind has the next rank, from v on downwards, the digits from v on being 0 -/
theorem sub_chg {n : Nat} {sz : Nat → Nat} (r v : Nat) : r - val sz r v * pr sz v = chg sz r v 0 := by
  have := run_split sz r v
  unfold chg
  omega
theorem add_chg {sz : Nat → Nat} (r v : Nat) : r + pr sz v = chg sz r v (val sz r v + 1) := by
  have := run_split sz r v
  unfold chg
  rw [Nat.add_mul, Nat.one_mul]
  omega
theorem nxt_ok {n : Nat} {sz : Nat → Nat} (hw : wf n sz) : ∀ {v r : Nat}, v ≤ n → r < pr sz n → nxt sz v r < pr sz n ∧ (∀ u, v ≤ u → u < n → val sz (nxt sz v r) u = val sz r u) ∧ (rk sz v r + 1 < pr sz v → rk sz v (nxt sz v r) = rk sz v r + 1)
  | 0, r, _, hr => ⟨hr, fun _ _ _ => rfl, fun h => absurd h (by show ¬ 0 + 1 < 1; omega)⟩
  | v + 1, r, hv, hr => by
    have hs := hw.val (v := v) (by omega) r
    show (if val sz r v + 1 < sz v then r + pr sz v else nxt sz v (r - val sz r v * pr sz v)) < pr sz n ∧ _
    have en : nxt sz (v + 1) r = if val sz r v + 1 < sz v then r + pr sz v else nxt sz v (r - val sz r v * pr sz v) := rfl
    rw [en]
    by_cases c : val sz r v + 1 < sz v
    · rw [if_pos c, add_chg]
      refine ⟨chg_lt hw (by omega) c hr, fun u h1 h2 => chg_ne hw (by omega) c (by omega), fun _ => ?_⟩
      show rk sz v _ * sz v + val sz _ v = rk sz v r * sz v + val sz r v + 1
      rw [chg_at hw (by omega) c, rk_c (s := r) (fun u hu => chg_ne hw (by omega) c (by omega))]
      omega
    · rw [if_neg c, sub_chg (n := n)]
      have h0 : 0 < sz v := by omega
      have hr2 := chg_lt hw (v := v) (by omega) h0 hr
      obtain ⟨h1, h2, h3⟩ := nxt_ok hw (v := v) (by omega) hr2
      refine ⟨h1, fun u hu hn => ?_, fun h => ?_⟩
      · rw [h2 u (by omega) hn]
        exact chg_ne hw (by omega) h0 (by omega)
      · have e1 : rk sz v (chg sz r v 0) = rk sz v r := rk_c (fun u hu => chg_ne hw (by omega) h0 (by omega))
        have h : rk sz v r * sz v + val sz r v + 1 < pr sz v * sz v := h
        have e2 : val sz r v + 1 = sz v := by omega
        have h4 : (rk sz v r + 1) * sz v < pr sz v * sz v := by
          rw [Nat.add_mul, Nat.one_mul]
          omega
        have h5 := Nat.lt_of_mul_lt_mul_right h4
        have h6 := h3 (by rw [e1]; exact h5)
        rw [e1] at h6
        show rk sz v _ * sz v + val sz _ v = rk sz v r * sz v + val sz r v + 1
        rw [h6, h2 v (Nat.le_refl v) (by omega), chg_at hw (by omega) h0, Nat.add_mul, Nat.one_mul]
        omega
def sq (sz : Nat → Nat) (n : Nat) : Nat → Nat
  | 0 => 0
  | i + 1 => nxt sz n (sq sz n i)
theorem rk_0 (sz : Nat → Nat) : ∀ v, rk sz v 0 = 0
  | 0 => rfl
  | v + 1 => by
    show rk sz v 0 * sz v + val sz 0 v = 0
    unfold val
    rw [rk_0 sz v, Nat.zero_mul, Nat.zero_div, Nat.zero_mod]
theorem sq_lt {n : Nat} {sz : Nat → Nat} (hw : wf n sz) : ∀ i, sq sz n i < pr sz n
  | 0 => hw.pos (Nat.le_refl n)
  | i + 1 => (nxt_ok hw (Nat.le_refl n) (sq_lt hw i)).1
theorem sq_rk {n : Nat} {sz : Nat → Nat} (hw : wf n sz) : ∀ {i}, i < pr sz n → rk sz n (sq sz n i) = i
  | 0, _ => rk_0 sz n
  | i + 1, h => by
    have ih := sq_rk hw (i := i) (by omega)
    have h1 := (nxt_ok hw (Nat.le_refl n) (sq_lt hw i)).2.2
    rw [ih] at h1
    exact h1 h
theorem sq_of {n : Nat} {sz : Nat → Nat} (hw : wf n sz) {r : Nat} (hr : r < pr sz n) : sq sz n (rk sz n r) = r := rk_eq hw (sq_lt hw _) hr (sq_rk hw (rk_lt hw r (Nat.le_refl n)))
/-- the first run of a row, k runs from the i-th on being looked at -/
def fsr (sz : Nat → Nat) (n : Nat) (f : Nat → Bool) : Nat → Nat → Int
  | 0, _ => -1
  | k + 1, i => if f (sq sz n i) then (sq sz n i : Nat) else fsr sz n f k (i + 1)
/-- heaviest run and its weight among the first i -/
def hvr (sz : Nat → Nat) (n : Nat) (f : Nat → Bool) (q : Nat → Int) : Nat → Int × Int
  | 0 => (-1, 0)
  | i + 1 => if f (sq sz n i) = true ∧ (hvr sz n f q i).2 < q (sq sz n i) then ((sq sz n i : Nat), q (sq sz n i)) else hvr sz n f q i
def swt (p : Nat → Bool) (q : Nat → Int) : Nat → Int
  | 0 => 0
  | i + 1 => swt p q i + (if p i then q i else 0)
/-- bounds of weights -/
theorem wq_le {n : Nat} {sz : Nat → Nat} (hw : wf n sz) {wt : Nat → Int} {ro : Nat → Bool} (h : ∀ i, i < 60 → 0 ≤ wt i ∧ wt i ≤ 30) (r : Nat) : ∀ {v : Nat}, v ≤ n → 0 ≤ wq sz wt ro v r ∧ wq sz wt ro v r ≤ 30 ^ v
  | 0, _ => ⟨by show (0 : Int) ≤ 1; omega, by show (1 : Int) ≤ 30 ^ 0; decide⟩
  | v + 1, hv => by
    have ih := wq_le hw h r (v := v) (by omega) (ro := ro)
    have h1 := hw.val (v := v) (by omega) r
    have h2 := hw.2.1 v (by omega)
    have hn := hw.1
    have h3 := h (v * 6 + val sz r v) (by omega)
    have h4 : 0 ≤ fac wt ro v (val sz r v) ∧ fac wt ro v (val sz r v) ≤ 30 := by
      unfold fac
      split
      · omega
      · exact h3
    show 0 ≤ wq sz wt ro v r * fac wt ro v (val sz r v) ∧ wq sz wt ro v r * fac wt ro v (val sz r v) ≤ 30 ^ (v + 1)
    refine ⟨Int.mul_nonneg ih.1 h4.1, ?_⟩
    rw [Int.pow_succ]
    exact Int.mul_le_mul ih.2 h4.2 h4.1 (Int.le_trans ih.1 ih.2)
theorem wq_b {n : Nat} {sz : Nat → Nat} (hw : wf n sz) {wt : Nat → Int} {ro : Nat → Bool} (h : ∀ i, i < 60 → 0 ≤ wt i ∧ wt i ≤ 30) (r : Nat) : 0 ≤ wq sz wt ro n r ∧ wq sz wt ro n r ≤ 590490000000000 := by
  have h1 := wq_le hw (ro := ro) h r (Nat.le_refl n)
  have h2 : ∀ n, n ≤ 10 → (30 : Int) ^ n ≤ 590490000000000 := by decide
  exact ⟨h1.1, Int.le_trans h1.2 (h2 n hw.1)⟩
theorem swt_b {p : Nat → Bool} {q : Nat → Int} (h : ∀ r, 0 ≤ q r ∧ q r ≤ 590490000000000) : ∀ i, 0 ≤ swt p q i ∧ swt p q i ≤ 590490000000000 * i
  | 0 => ⟨Int.le_refl _, by show (0 : Int) ≤ _; omega⟩
  | i + 1 => by
    have ih := swt_b (p := p) h i
    have h1 := h i
    show 0 ≤ swt p q i + (if p i then q i else 0) ∧ swt p q i + (if p i then q i else 0) ≤ _
    split <;> omega
def wgB (b : Bool) (S : ST) (n : Nat) (sz : Nat → Nat) (wt : Nat → Int) (ro : Nat → Bool) : ST := if b then wgh S n sz wt ro else S
section WG
variable {S : ST} {n : Nat} {sz : Nat → Nat} {wt : Nat → Int} {ro : Nat → Bool}
theorem wgB_vC {b : Bool} (h : vC S n sz) : vC (wgB b S n sz wt ro) n sz := by cases b <;> exact h
theorem wgB_wC {b : Bool} (h : wC S wt ro) : wC (wgB b S n sz wt ro) wt ro := by cases b <;> exact h
theorem wgB_gC {b b0 : Bool} (h : gC S n sz wt ro b0) : gC (wgB b S n sz wt ro) n sz wt ro (b || b0) := by
  cases b
  · exact h
  · exact wgh_gC S
theorem wgB_row {b : Bool} {a o : Nat} {f : Nat → Bool} (ha : a ≠ 6) (h : rowS S a o f) : rowS (wgB b S n sz wt ro) a o f := by
  cases b
  · exact h
  · intro k hk
    show SL (wLA S 6 _) a (o + k) = _
    rw [SL_wLA, if_neg ha]
    exact h k hk
theorem wgB_kd {b : Bool} (a : Nat) : kd (wgB b S n sz wt ro) a = kd S a := by cases b <;> rfl
theorem wgh_wgB (b : Bool) : wgh (wgB b S n sz wt ro) n sz wt ro = wgh S n sz wt ro := by
  cases b
  · rfl
  · exact wgh_same (wgh_gC S)
end WG
section FR
variable {X : List Int32} {S : ST} {n : Nat} {sz : Nat → Nat} {a b c : Nat} {f g h : Nat → Bool} {wt : Nat → Int} {ro : Nat → Bool}
theorem c_firstRun {i0 : Nat} (hv : vC S n sz) (hi0 : i0 < 40) (hf : rowS S (9 + i0) 0 f) : sM X 2 80 [.ref 7, .int (iI (i0 : Nat))] S (sV (some (.int (iI (fsr sz n f (pr sz n) 0)))) S) := by
  have hT0 := hv.1.2.2
  refine sIni (ls := [some (.ref 7), some (.int (iI ((i0 : Nat) : Int))), none, none, none]) rfl ?_
  refine sL (pc' := 1) (i := .aload_n 0) rfl rfl ?_
  refine sL (pc' := 2) (i := .iload_n 1) rfl rfl ?_
  refine sCv (p := 5) (as := [_]) rfl rfl rfl rfl (by decide) (Nat.le_of_ble_eq_true rfl) rfl (Nat.le_of_ble_eq_true rfl) (sk_7 _) rfl (by omega) (c_row hi0) ?_
  refine sL (pc' := 6) (i := .astore_n 2) (ls' := [some (.ref 7), some (.int (iI ((i0 : Nat) : Int))), some (.ref (9 + i0)), none, none]) rfl rfl ?_
  refine sKi (p := 7) rfl rfl ?_
  refine sL (pc' := 8) (i := .istore_n 3) (ls' := [some (.ref 7), some (.int (iI ((i0 : Nat) : Int))), some (.ref (9 + i0)), some (.int (iI 0)), none]) rfl rfl ?_
  refine sKi (p := 9) rfl rfl ?_
  refine sL (pc' := 11) (i := .istore 4) (ls' := [some (.ref 7), some (.int (iI ((i0 : Nat) : Int))), some (.ref (9 + i0)), some (.int (iI 0)), some (.int (iI 0))]) rfl rfl ?_
  refine sIt (A := fun i => [some (.ref 7), some (.int (iI ((i0 : Nat) : Int))), some (.ref (9 + i0)), some (.int (iI ((sq sz n i : Nat) : Int))), some (.int (iI ((i : Nat) : Int)))]) (B := fun _ => S) (fun i => fsr sz n f (pr sz n) 0 = fsr sz n f (pr sz n - i) i) (pr sz n) (by rw [Nat.sub_zero]) (fun i hi11 hI11 ih11 => ?_) (fun hI11 => ?_)
  · have hi11 := hi11
    have hsq := sq_lt hv.1 i
    have e1 : pr sz n - i = (pr sz n - (i + 1)) + 1 := by omega
    refine sL (pc' := 13) (i := .iload 4) rfl rfl ?_
    refine sL (pc' := 14) (i := .aload_n 0) rfl rfl ?_
    refine sGc (p := 17) rfl rfl (sk_7 _) rfl rfl rfl ?_
    refine sGi (p := 20) rfl rfl (sk_1 _) rfl rfl rfl hv.2.2.1 ?_
    refine sIc_ge (p := 23) rfl rfl ⟨by omega, by omega⟩ ⟨by omega, by omega⟩ (fun c1 => ?_) (fun c1 => ?_)
    · exfalso; omega
    · have c1 := c1
      refine sL (pc' := 24) (i := .aload_n 2) rfl rfl ?_
      refine sL (pc' := 25) (i := .iload_n 3) rfl rfl ?_
      refine sCs (p := 28) (as := [_, _]) rfl rfl rfl rfl (by decide) (Nat.le_of_ble_eq_true rfl) rfl (Nat.le_of_ble_eq_true rfl) rfl (by omega) (c_so (r := sq sz n i) (sk_rows _ hi0) hf (by omega)) ?_
      refine sBe (p := 31) rfl rfl (fun c2 => ?_) (fun c2 => ?_)
      · have c2 := c2
        refine sL (pc' := 34) (i := .aload_n 0) rfl rfl ?_
        refine sGc (p := 37) rfl rfl (sk_7 _) rfl rfl rfl ?_
        refine sL (pc' := 38) (i := .iload_n 3) rfl rfl ?_
        refine sCv (p := 41) (as := [_]) rfl rfl rfl rfl (by decide) (Nat.le_of_ble_eq_true rfl) rfl (Nat.le_of_ble_eq_true rfl) (sk_1 _) rfl (by omega) (c_following hv (sq_lt hv.1 i)) ?_
        refine sL (pc' := 42) (i := .istore_n 3) (ls' := [some (.ref 7), some (.int (iI ((i0 : Nat) : Int))), some (.ref (9 + i0)), some (.int (iI ((sq sz n (i + 1) : Nat) : Int))), some (.int (iI ((i : Nat) : Int)))]) rfl rfl ?_
        refine sInX (z := ((i : Nat) : Int)) (ls' := [some (.ref 7), some (.int (iI ((i0 : Nat) : Int))), some (.ref (9 + i0)), some (.int (iI ((sq sz n (i + 1) : Nat) : Int))), some (.int (iI (((i : Nat) : Int) + 1)))]) (p := 45) rfl rfl (Nat.le_of_ble_eq_true rfl) rfl rfl ?_
        refine sL (i := .goto (-34)) rfl rfl ?_
        refine sRo (ls := [some (.ref 7), some (.int (iI ((i0 : Nat) : Int))), some (.ref (9 + i0)), some (.int (iI ((sq sz n (i + 1) : Nat) : Int))), some (.int (iI ((i + 1 : Nat) : Int)))]) (T := _) (And.intro rfl (And.intro rfl (And.intro rfl (And.intro rfl (And.intro rfl (True.intro)))))) (rfl) (ih11 ?_)
        rw [hI11, e1]
        show (if f (sq sz n i) then _ else _) = _
        rw [if_neg (by rw [c2]; decide)]
      · have c2 := c2
        refine sL (pc' := 32) (i := .iload_n 3) rfl rfl ?_
        refine sEn (i := .ireturn) rfl (rfl) ?_
        refine ⟨?_, rfl⟩
        rw [hI11, e1]
        show _ = some (Value.int (iI (if f (sq sz n i) then _ else _)))
        rw [if_pos c2]
  · have hI11 := hI11
    refine sL (pc' := 13) (i := .iload 4) rfl rfl ?_
    refine sL (pc' := 14) (i := .aload_n 0) rfl rfl ?_
    refine sGc (p := 17) rfl rfl (sk_7 _) rfl rfl rfl ?_
    refine sGi (p := 20) rfl rfl (sk_1 _) rfl rfl rfl hv.2.2.1 ?_
    refine sIc_ge (p := 23) rfl rfl ⟨by omega, by omega⟩ ⟨by omega, by omega⟩ (fun c3 => ?_) (fun c3 => ?_)
    · have c3 := c3
      refine sKi (p := 49) rfl rfl ?_
      refine sEn (i := .ireturn) rfl (rfl) ?_
      exact ⟨by rw [hI11, Nat.sub_self]; rfl, rfl⟩
    · exfalso; omega
theorem wgB_t {p : Nat → Bool} {i : Nat} (h : p i = true) : sH (wgh (wgB (anyB p i) S n sz wt ro) n sz wt ro) = sH (wgB (anyB p (i + 1)) S n sz wt ro) := by
  rw [wgh_wgB, show anyB p (i + 1) = true from by show (anyB p i || p i) = true; rw [h, Bool.or_true]]
  rfl
theorem wgB_t2 {p : Nat → Bool} {i : Nat} (h : p i = true) : sH (wgh (wgh (wgB (anyB p i) S n sz wt ro) n sz wt ro) n sz wt ro) = sH (wgB (anyB p (i + 1)) S n sz wt ro) := by
  rw [wgh_same (wgh_gC _), wgB_t h]
theorem wgB_f {p : Nat → Bool} {i : Nat} (h : p i = false) : sH (wgB (anyB p i) S n sz wt ro) = sH (wgB (anyB p (i + 1)) S n sz wt ro) := by
  rw [show anyB p (i + 1) = anyB p i from by show (anyB p i || p i) = _; rw [h, Bool.or_false]]
theorem c_weightOfBoth {b0 : Bool} (hv : vC S n sz) (hw : wC S wt ro) (hg : gC S n sz wt ro b0) (hka : kd S a = some (.inl (2, 16))) (hkb : kd S b = some (.inl (2, 16))) (ha : a ≠ 6) (hb : b ≠ 6) (hfa : rowS S a 0 f) (hfb : rowS S b 0 g) : sM X 3 82 [.ref 7, .ref a, .ref b] S (sV (some (.long (lI (swt (fun r => f r && g r) (wq sz wt ro n) (pr sz n))))) (wgB (anyB (fun r => f r && g r) (pr sz n)) S n sz wt ro)) := by
  have hT0 := hv.1.2.2
  refine sIni (ls := [some (.ref 7), some (.ref a), some (.ref b), none, none, none]) rfl ?_
  refine sKj0 (p := 1) rfl rfl rfl ?_
  refine sL (pc' := 2) (i := .lstore_n 3) (ls' := [some (.ref 7), some (.ref a), some (.ref b), some (.long (lI 0)), none, none]) rfl rfl ?_
  refine sKi (p := 3) rfl rfl ?_
  refine sL (pc' := 5) (i := .istore 5) (ls' := [some (.ref 7), some (.ref a), some (.ref b), some (.long (lI 0)), none, some (.int (iI 0))]) rfl rfl ?_
  refine sSh (T := wgB (anyB (fun r => f r && g r) 0) S n sz wt ro) (rfl) ?_
  refine sIt (A := fun i => [some (.ref 7), some (.ref a), some (.ref b), some (.long (lI (swt (fun r => f r && g r) (wq sz wt ro n) i))), none, some (.int (iI ((i : Nat) : Int)))]) (B := fun i => wgB (anyB (fun r => f r && g r) i) S n sz wt ro) (fun _ => True) (pr sz n) True.intro (fun i hi5 hI5 ih5 => ?_) (fun hI5 => ?_)
  · have hi5 := hi5
    refine sL (pc' := 7) (i := .iload 5) rfl rfl ?_
    refine sL (pc' := 8) (i := .aload_n 0) rfl rfl ?_
    refine sGc (p := 11) rfl rfl (sk_7 _) rfl rfl rfl ?_
    refine sGi (p := 14) rfl rfl (sk_1 _) rfl rfl rfl (wgB_vC hv).2.2.1 ?_
    refine sIc_ge (p := 17) rfl rfl ⟨by omega, by omega⟩ ⟨by omega, by omega⟩ (fun c1 => ?_) (fun c1 => ?_)
    · exfalso; omega
    · have c1 := c1
      refine sL (pc' := 18) (i := .aload_n 1) rfl rfl ?_
      refine sL (pc' := 20) (i := .iload 5) rfl rfl ?_
      refine sCs (p := 23) (as := [_, _]) rfl rfl rfl rfl (by decide) (Nat.le_of_ble_eq_true rfl) rfl (Nat.le_of_ble_eq_true rfl) rfl (by omega) (c_so (r := i) ((wgB_kd _).trans hka) (wgB_row ha hfa) (by omega)) ?_
      refine sBe (p := 26) rfl rfl (fun c2 => ?_) (fun c2 => ?_)
      · have c2 := c2
        refine sInX (z := ((i : Nat) : Int)) (ls' := [some (.ref 7), some (.ref a), some (.ref b), some (.long (lI (swt (fun r => f r && g r) (wq sz wt ro n) i))), none, some (.int (iI (((i : Nat) : Int) + 1)))]) (p := 50) rfl rfl (Nat.le_of_ble_eq_true rfl) rfl rfl ?_
        refine sL (i := .goto (-45)) rfl rfl ?_
        refine sRo (ls := [some (.ref 7), some (.ref a), some (.ref b), some (.long (lI (swt (fun r => f r && g r) (wq sz wt ro n) (i + 1)))), none, some (.int (iI ((i + 1 : Nat) : Int)))]) (T := wgB (anyB (fun r => f r && g r) (i + 1)) S n sz wt ro) (And.intro rfl (And.intro rfl (And.intro rfl (And.intro (congrArg (fun z => some (Value.long z)) (congrArg lI (by show _ = swt _ _ i + (if (f i && g i) then _ else 0); rw [c2]; simp))) (And.intro rfl (True.intro)))))) (wgB_f (p := fun r => f r && g r) (by show (f i && g i) = false; rw [c2]; simp)) (ih5 ?_)
        exact True.intro
      · have c2 := c2
        refine sL (pc' := 27) (i := .aload_n 2) rfl rfl ?_
        refine sL (pc' := 29) (i := .iload 5) rfl rfl ?_
        refine sCs (p := 32) (as := [_, _]) rfl rfl rfl rfl (by decide) (Nat.le_of_ble_eq_true rfl) rfl (Nat.le_of_ble_eq_true rfl) rfl (by omega) (c_so (r := i) ((wgB_kd _).trans hkb) (wgB_row hb hfb) (by omega)) ?_
        refine sBe (p := 35) rfl rfl (fun c3 => ?_) (fun c3 => ?_)
        · have c3 := c3
          refine sInX (z := ((i : Nat) : Int)) (ls' := [some (.ref 7), some (.ref a), some (.ref b), some (.long (lI (swt (fun r => f r && g r) (wq sz wt ro n) i))), none, some (.int (iI (((i : Nat) : Int) + 1)))]) (p := 50) rfl rfl (Nat.le_of_ble_eq_true rfl) rfl rfl ?_
          refine sL (i := .goto (-45)) rfl rfl ?_
          refine sRo (ls := [some (.ref 7), some (.ref a), some (.ref b), some (.long (lI (swt (fun r => f r && g r) (wq sz wt ro n) (i + 1)))), none, some (.int (iI ((i + 1 : Nat) : Int)))]) (T := wgB (anyB (fun r => f r && g r) (i + 1)) S n sz wt ro) (And.intro rfl (And.intro rfl (And.intro rfl (And.intro (congrArg (fun z => some (Value.long z)) (congrArg lI (by show _ = swt _ _ i + (if (f i && g i) then _ else 0); rw [c3]; simp))) (And.intro rfl (True.intro)))))) (wgB_f (p := fun r => f r && g r) (by show (f i && g i) = false; rw [c3]; simp)) (ih5 ?_)
          exact True.intro
        · have c3 := c3
          refine sL (pc' := 36) (i := .lload_n 3) rfl rfl ?_
          refine sL (pc' := 37) (i := .aload_n 0) rfl rfl ?_
          refine sGc (p := 40) rfl rfl (sk_7 _) rfl rfl rfl ?_
          refine sL (pc' := 42) (i := .iload 5) rfl rfl ?_
          refine sCv (p := 45) (as := [_]) rfl rfl rfl rfl (by decide) (Nat.le_of_ble_eq_true rfl) rfl (Nat.le_of_ble_eq_true rfl) (sk_1 _) rfl (by omega) (c_weightOfRun (wgB_vC hv) (wgB_wC hw) (wgB_gC hg) hi5) ?_
          refine sL (pc' := 46) (i := .ladd) rfl rfl ?_
          rw [lI_add]
          refine sL (pc' := 47) (i := .lstore_n 3) (ls' := [some (.ref 7), some (.ref a), some (.ref b), some (.long (lI (swt (fun r => f r && g r) (wq sz wt ro n) i + wq sz wt ro n i))), none, some (.int (iI ((i : Nat) : Int)))]) rfl rfl ?_
          refine sInX (z := ((i : Nat) : Int)) (ls' := [some (.ref 7), some (.ref a), some (.ref b), some (.long (lI (swt (fun r => f r && g r) (wq sz wt ro n) i + wq sz wt ro n i))), none, some (.int (iI (((i : Nat) : Int) + 1)))]) (p := 50) rfl rfl (Nat.le_of_ble_eq_true rfl) rfl rfl ?_
          refine sL (i := .goto (-45)) rfl rfl ?_
          refine sRo (ls := [some (.ref 7), some (.ref a), some (.ref b), some (.long (lI (swt (fun r => f r && g r) (wq sz wt ro n) (i + 1)))), none, some (.int (iI ((i + 1 : Nat) : Int)))]) (T := wgB (anyB (fun r => f r && g r) (i + 1)) S n sz wt ro) (And.intro rfl (And.intro rfl (And.intro rfl (And.intro (congrArg (fun z => some (Value.long z)) (congrArg lI (by show _ = swt _ _ i + (if (f i && g i) then _ else 0); rw [c2, c3]; rfl))) (And.intro rfl (True.intro)))))) (wgB_t (p := fun r => f r && g r) (by show (f i && g i) = true; rw [c2, c3]; rfl)) (ih5 ?_)
          exact True.intro
  · have hI5 := hI5
    refine sL (pc' := 7) (i := .iload 5) rfl rfl ?_
    refine sL (pc' := 8) (i := .aload_n 0) rfl rfl ?_
    refine sGc (p := 11) rfl rfl (sk_7 _) rfl rfl rfl ?_
    refine sGi (p := 14) rfl rfl (sk_1 _) rfl rfl rfl (wgB_vC hv).2.2.1 ?_
    refine sIc_ge (p := 17) rfl rfl ⟨by omega, by omega⟩ ⟨by omega, by omega⟩ (fun c4 => ?_) (fun c4 => ?_)
    · have c4 := c4
      refine sL (pc' := 54) (i := .lload_n 3) rfl rfl ?_
      refine sEn (i := .lreturn) rfl (rfl) ?_
      exact ⟨rfl, rfl⟩
    · exfalso; omega
theorem hvr_t {q : Nat → Int} {i : Nat} (h1 : f (sq sz n i) = true) (h2 : (hvr sz n f q i).2 < q (sq sz n i)) : hvr sz n f q (i + 1) = (((sq sz n i : Nat) : Int), q (sq sz n i)) := if_pos ⟨h1, h2⟩
theorem hvr_f {q : Nat → Int} {i : Nat} (h : ¬ (f (sq sz n i) = true ∧ (hvr sz n f q i).2 < q (sq sz n i))) : hvr sz n f q (i + 1) = hvr sz n f q i := if_neg h
theorem hvr_b {q : Nat → Int} (hq : ∀ r, 0 ≤ q r ∧ q r ≤ 590490000000000) : ∀ i, 0 ≤ (hvr sz n f q i).2 ∧ (hvr sz n f q i).2 ≤ 590490000000000
  | 0 => ⟨Int.le_refl _, by show (0 : Int) ≤ _; omega⟩
  | i + 1 => by
    by_cases c : f (sq sz n i) = true ∧ (hvr sz n f q i).2 < q (sq sz n i)
    · rw [hvr_t c.1 c.2]
      exact hq _
    · rw [hvr_f c]
      exact hvr_b hq i
theorem c_heaviestRun {i0 : Nat} {b0 : Bool} (hv : vC S n sz) (hw : wC S wt ro) (hg : gC S n sz wt ro b0) (hi0 : i0 < 40) (hf : rowS S (9 + i0) 0 f) : sM X 3 81 [.ref 7, .int (iI (i0 : Nat))] S (sV (some (.int (iI (hvr sz n f (wq sz wt ro n) (pr sz n)).1))) (wgB (anyB (fun i => f (sq sz n i)) (pr sz n)) S n sz wt ro)) := by
  have hT0 := hv.1.2.2
  have hwq : ∀ r, 0 ≤ wq sz wt ro n r ∧ wq sz wt ro n r ≤ 590490000000000 := wq_b hv.1 (fun i hi => (hw i hi).2.2)
  refine sIni (ls := [some (.ref 7), some (.int (iI ((i0 : Nat) : Int))), none, none, none, none, none, none]) rfl ?_
  refine sL (pc' := 1) (i := .aload_n 0) rfl rfl ?_
  refine sL (pc' := 2) (i := .iload_n 1) rfl rfl ?_
  refine sCv (p := 5) (as := [_]) rfl rfl rfl rfl (by decide) (Nat.le_of_ble_eq_true rfl) rfl (Nat.le_of_ble_eq_true rfl) (sk_7 _) rfl (by omega) (c_row hi0) ?_
  refine sL (pc' := 6) (i := .astore_n 2) (ls' := [some (.ref 7), some (.int (iI ((i0 : Nat) : Int))), some (.ref (9 + i0)), none, none, none, none, none]) rfl rfl ?_
  refine sKi (p := 7) rfl rfl ?_
  refine sL (pc' := 8) (i := .istore_n 3) (ls' := [some (.ref 7), some (.int (iI ((i0 : Nat) : Int))), some (.ref (9 + i0)), some (.int (iI (-1))), none, none, none, none]) rfl rfl ?_
  refine sKj0 (p := 9) rfl rfl rfl ?_
  refine sL (pc' := 11) (i := .lstore 4) (ls' := [some (.ref 7), some (.int (iI ((i0 : Nat) : Int))), some (.ref (9 + i0)), some (.int (iI (-1))), some (.long (lI 0)), none, none, none]) rfl rfl ?_
  refine sKi (p := 12) rfl rfl ?_
  refine sL (pc' := 14) (i := .istore 6) (ls' := [some (.ref 7), some (.int (iI ((i0 : Nat) : Int))), some (.ref (9 + i0)), some (.int (iI (-1))), some (.long (lI 0)), none, some (.int (iI 0)), none]) rfl rfl ?_
  refine sKi (p := 15) rfl rfl ?_
  refine sL (pc' := 17) (i := .istore 7) (ls' := [some (.ref 7), some (.int (iI ((i0 : Nat) : Int))), some (.ref (9 + i0)), some (.int (iI (-1))), some (.long (lI 0)), none, some (.int (iI 0)), some (.int (iI 0))]) rfl rfl ?_
  refine sSh (T := wgB (anyB (fun i => f (sq sz n i)) 0) S n sz wt ro) (rfl) ?_
  refine sIt (A := fun i => [some (.ref 7), some (.int (iI ((i0 : Nat) : Int))), some (.ref (9 + i0)), some (.int (iI ((hvr sz n f (wq sz wt ro n) i).1))), some (.long (lI (hvr sz n f (wq sz wt ro n) i).2)), none, some (.int (iI ((sq sz n i : Nat) : Int))), some (.int (iI ((i : Nat) : Int)))]) (B := fun i => wgB (anyB (fun i => f (sq sz n i)) i) S n sz wt ro) (fun _ => True) (pr sz n) True.intro (fun i hi17 hI17 ih17 => ?_) (fun hI17 => ?_)
  · have hi17 := hi17
    have hsq := sq_lt hv.1 i
    have hq1 := hwq (sq sz n i)
    have hq2 := hvr_b (sz := sz) (n := n) (f := f) hwq i
    refine sL (pc' := 19) (i := .iload 7) rfl rfl ?_
    refine sL (pc' := 20) (i := .aload_n 0) rfl rfl ?_
    refine sGc (p := 23) rfl rfl (sk_7 _) rfl rfl rfl ?_
    refine sGi (p := 26) rfl rfl (sk_1 _) rfl rfl rfl (wgB_vC hv).2.2.1 ?_
    refine sIc_ge (p := 29) rfl rfl ⟨by omega, by omega⟩ ⟨by omega, by omega⟩ (fun c1 => ?_) (fun c1 => ?_)
    · exfalso; omega
    · have c1 := c1
      refine sL (pc' := 30) (i := .aload_n 2) rfl rfl ?_
      refine sL (pc' := 32) (i := .iload 6) rfl rfl ?_
      refine sCs (p := 35) (as := [_, _]) rfl rfl rfl rfl (by decide) (Nat.le_of_ble_eq_true rfl) rfl (Nat.le_of_ble_eq_true rfl) rfl (by omega) (c_so (r := sq sz n i) (sk_rows _ hi0) (wgB_row (by omega) hf) (by omega)) ?_
      refine sBe (p := 38) rfl rfl (fun c2 => ?_) (fun c2 => ?_)
      · have c2 := c2
        refine sL (pc' := 68) (i := .aload_n 0) rfl rfl ?_
        refine sGc (p := 71) rfl rfl (sk_7 _) rfl rfl rfl ?_
        refine sL (pc' := 73) (i := .iload 6) rfl rfl ?_
        refine sCv (p := 76) (as := [_]) rfl rfl rfl rfl (by decide) (Nat.le_of_ble_eq_true rfl) rfl (Nat.le_of_ble_eq_true rfl) (sk_1 _) rfl (by omega) (c_following (wgB_vC hv) hsq) ?_
        refine sL (pc' := 78) (i := .istore 6) (ls' := [some (.ref 7), some (.int (iI ((i0 : Nat) : Int))), some (.ref (9 + i0)), some (.int (iI ((hvr sz n f (wq sz wt ro n) i).1))), some (.long (lI (hvr sz n f (wq sz wt ro n) i).2)), none, some (.int (iI ((sq sz n (i + 1) : Nat) : Int))), some (.int (iI ((i : Nat) : Int)))]) rfl rfl ?_
        refine sInX (z := ((i : Nat) : Int)) (ls' := [some (.ref 7), some (.int (iI ((i0 : Nat) : Int))), some (.ref (9 + i0)), some (.int (iI ((hvr sz n f (wq sz wt ro n) i).1))), some (.long (lI (hvr sz n f (wq sz wt ro n) i).2)), none, some (.int (iI ((sq sz n (i + 1) : Nat) : Int))), some (.int (iI (((i : Nat) : Int) + 1)))]) (p := 81) rfl rfl (Nat.le_of_ble_eq_true rfl) rfl rfl ?_
        refine sL (i := .goto (-64)) rfl rfl ?_
        have hh := hvr_f (f := f) (sz := sz) (n := n) (q := wq sz wt ro n) (i := i) (fun z => by rw [c2] at z; exact absurd z.1 (by decide))
        refine sRo (ls := [some (.ref 7), some (.int (iI ((i0 : Nat) : Int))), some (.ref (9 + i0)), some (.int (iI ((hvr sz n f (wq sz wt ro n) (i + 1)).1))), some (.long (lI (hvr sz n f (wq sz wt ro n) (i + 1)).2)), none, some (.int (iI ((sq sz n (i + 1) : Nat) : Int))), some (.int (iI ((i + 1 : Nat) : Int)))]) (T := wgB (anyB (fun i => f (sq sz n i)) (i + 1)) S n sz wt ro) (And.intro rfl (And.intro rfl (And.intro rfl (And.intro (congrArg (fun z => some (Value.int z)) (congrArg iI (by rw [hh]))) (And.intro (congrArg (fun z => some (Value.long z)) (congrArg lI (by rw [hh]))) (And.intro rfl (And.intro rfl (True.intro)))))))) (wgB_f (p := fun i => f (sq sz n i)) c2) (ih17 ?_)
        exact True.intro
      · have c2 := c2
        refine sL (pc' := 39) (i := .aload_n 0) rfl rfl ?_
        refine sGc (p := 42) rfl rfl (sk_7 _) rfl rfl rfl ?_
        refine sL (pc' := 44) (i := .iload 6) rfl rfl ?_
        refine sCv (p := 47) (as := [_]) rfl rfl rfl rfl (by decide) (Nat.le_of_ble_eq_true rfl) rfl (Nat.le_of_ble_eq_true rfl) (sk_1 _) rfl (by omega) (c_weightOfRun (wgB_vC hv) (wgB_wC hw) (wgB_gC hg) hsq) ?_
        refine sL (pc' := 49) (i := .lload 4) rfl rfl ?_
        refine sLf_le (p := 53) rfl rfl rfl ⟨by omega, by omega⟩ ⟨by omega, by omega⟩ (fun c3 => ?_) (fun c3 => ?_)
        · have c3 := c3
          refine sL (pc' := 68) (i := .aload_n 0) rfl rfl ?_
          refine sGc (p := 71) rfl rfl (sk_7 _) rfl rfl rfl ?_
          refine sL (pc' := 73) (i := .iload 6) rfl rfl ?_
          refine sCv (p := 76) (as := [_]) rfl rfl rfl rfl (by decide) (Nat.le_of_ble_eq_true rfl) rfl (Nat.le_of_ble_eq_true rfl) (sk_1 _) rfl (by omega) (c_following ((wgB_vC (b := true) (wgB_vC hv) : vC (wgh _ n sz wt ro) n sz)) hsq) ?_
          refine sL (pc' := 78) (i := .istore 6) (ls' := [some (.ref 7), some (.int (iI ((i0 : Nat) : Int))), some (.ref (9 + i0)), some (.int (iI ((hvr sz n f (wq sz wt ro n) i).1))), some (.long (lI (hvr sz n f (wq sz wt ro n) i).2)), none, some (.int (iI ((sq sz n (i + 1) : Nat) : Int))), some (.int (iI ((i : Nat) : Int)))]) rfl rfl ?_
          refine sInX (z := ((i : Nat) : Int)) (ls' := [some (.ref 7), some (.int (iI ((i0 : Nat) : Int))), some (.ref (9 + i0)), some (.int (iI ((hvr sz n f (wq sz wt ro n) i).1))), some (.long (lI (hvr sz n f (wq sz wt ro n) i).2)), none, some (.int (iI ((sq sz n (i + 1) : Nat) : Int))), some (.int (iI (((i : Nat) : Int) + 1)))]) (p := 81) rfl rfl (Nat.le_of_ble_eq_true rfl) rfl rfl ?_
          refine sL (i := .goto (-64)) rfl rfl ?_
          have hh := hvr_f (f := f) (sz := sz) (n := n) (q := wq sz wt ro n) (i := i) (fun z => by omega)
          refine sRo (ls := [some (.ref 7), some (.int (iI ((i0 : Nat) : Int))), some (.ref (9 + i0)), some (.int (iI ((hvr sz n f (wq sz wt ro n) (i + 1)).1))), some (.long (lI (hvr sz n f (wq sz wt ro n) (i + 1)).2)), none, some (.int (iI ((sq sz n (i + 1) : Nat) : Int))), some (.int (iI ((i + 1 : Nat) : Int)))]) (T := wgB (anyB (fun i => f (sq sz n i)) (i + 1)) S n sz wt ro) (And.intro rfl (And.intro rfl (And.intro rfl (And.intro (congrArg (fun z => some (Value.int z)) (congrArg iI (by rw [hh]))) (And.intro (congrArg (fun z => some (Value.long z)) (congrArg lI (by rw [hh]))) (And.intro rfl (And.intro rfl (True.intro)))))))) (wgB_t (p := fun i => f (sq sz n i)) c2) (ih17 ?_)
          exact True.intro
        · have c3 := c3
          refine sL (pc' := 55) (i := .iload 6) rfl rfl ?_
          refine sL (pc' := 56) (i := .istore_n 3) (ls' := [some (.ref 7), some (.int (iI ((i0 : Nat) : Int))), some (.ref (9 + i0)), some (.int (iI ((sq sz n i : Nat) : Int))), some (.long (lI (hvr sz n f (wq sz wt ro n) i).2)), none, some (.int (iI ((sq sz n i : Nat) : Int))), some (.int (iI ((i : Nat) : Int)))]) rfl rfl ?_
          refine sL (pc' := 57) (i := .aload_n 0) rfl rfl ?_
          refine sGc (p := 60) rfl rfl (sk_7 _) rfl rfl rfl ?_
          refine sL (pc' := 62) (i := .iload 6) rfl rfl ?_
          refine sCv (p := 65) (as := [_]) rfl rfl rfl rfl (by decide) (Nat.le_of_ble_eq_true rfl) rfl (Nat.le_of_ble_eq_true rfl) (sk_1 _) rfl (by omega) (c_weightOfRun (S := wgh (wgB (anyB (fun i => f (sq sz n i)) i) S n sz wt ro) n sz wt ro) (wgB_vC (b := true) (wgB_vC hv)) (wgB_wC (b := true) (wgB_wC hw)) (wgh_gC _) hsq) ?_
          refine sL (pc' := 67) (i := .lstore 4) (ls' := [some (.ref 7), some (.int (iI ((i0 : Nat) : Int))), some (.ref (9 + i0)), some (.int (iI ((sq sz n i : Nat) : Int))), some (.long (lI (wq sz wt ro n (sq sz n i)))), none, some (.int (iI ((sq sz n i : Nat) : Int))), some (.int (iI ((i : Nat) : Int)))]) rfl rfl ?_
          refine sL (pc' := 68) (i := .aload_n 0) rfl rfl ?_
          refine sGc (p := 71) rfl rfl (sk_7 _) rfl rfl rfl ?_
          refine sL (pc' := 73) (i := .iload 6) rfl rfl ?_
          refine sCv (p := 76) (as := [_]) rfl rfl rfl rfl (by decide) (Nat.le_of_ble_eq_true rfl) rfl (Nat.le_of_ble_eq_true rfl) (sk_1 _) rfl (by omega) (c_following ((wgB_vC (b := true) (wgB_vC (b := true) (wgB_vC hv)) : vC (wgh (wgh _ n sz wt ro) n sz wt ro) n sz)) hsq) ?_
          refine sL (pc' := 78) (i := .istore 6) (ls' := [some (.ref 7), some (.int (iI ((i0 : Nat) : Int))), some (.ref (9 + i0)), some (.int (iI ((sq sz n i : Nat) : Int))), some (.long (lI (wq sz wt ro n (sq sz n i)))), none, some (.int (iI ((sq sz n (i + 1) : Nat) : Int))), some (.int (iI ((i : Nat) : Int)))]) rfl rfl ?_
          refine sInX (z := ((i : Nat) : Int)) (ls' := [some (.ref 7), some (.int (iI ((i0 : Nat) : Int))), some (.ref (9 + i0)), some (.int (iI ((sq sz n i : Nat) : Int))), some (.long (lI (wq sz wt ro n (sq sz n i)))), none, some (.int (iI ((sq sz n (i + 1) : Nat) : Int))), some (.int (iI (((i : Nat) : Int) + 1)))]) (p := 81) rfl rfl (Nat.le_of_ble_eq_true rfl) rfl rfl ?_
          refine sL (i := .goto (-64)) rfl rfl ?_
          have hh := hvr_t (q := wq sz wt ro n) c2 (by omega)
          refine sRo (ls := [some (.ref 7), some (.int (iI ((i0 : Nat) : Int))), some (.ref (9 + i0)), some (.int (iI ((hvr sz n f (wq sz wt ro n) (i + 1)).1))), some (.long (lI (hvr sz n f (wq sz wt ro n) (i + 1)).2)), none, some (.int (iI ((sq sz n (i + 1) : Nat) : Int))), some (.int (iI ((i + 1 : Nat) : Int)))]) (T := wgB (anyB (fun i => f (sq sz n i)) (i + 1)) S n sz wt ro) (And.intro rfl (And.intro rfl (And.intro rfl (And.intro (congrArg (fun z => some (Value.int z)) (congrArg iI (by rw [hh]))) (And.intro (congrArg (fun z => some (Value.long z)) (congrArg lI (by rw [hh]))) (And.intro rfl (And.intro rfl (True.intro)))))))) (wgB_t2 (p := fun i => f (sq sz n i)) c2) (ih17 ?_)
          exact True.intro
  · have hI17 := hI17
    refine sL (pc' := 19) (i := .iload 7) rfl rfl ?_
    refine sL (pc' := 20) (i := .aload_n 0) rfl rfl ?_
    refine sGc (p := 23) rfl rfl (sk_7 _) rfl rfl rfl ?_
    refine sGi (p := 26) rfl rfl (sk_1 _) rfl rfl rfl (wgB_vC hv).2.2.1 ?_
    refine sIc_ge (p := 29) rfl rfl ⟨by omega, by omega⟩ ⟨by omega, by omega⟩ (fun c4 => ?_) (fun c4 => ?_)
    · have c4 := c4
      refine sL (pc' := 85) (i := .iload_n 3) rfl rfl ?_
      refine sEn (i := .ireturn) rfl (rfl) ?_
      exact ⟨rfl, rfl⟩
    · exfalso; omega
end FR
