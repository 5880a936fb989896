/-! ===== prefixes, levels, how many tables there can be ===== -/
def pfx (sz ord : Nat → Nat) (r s : Nat) : Nat → Nat
  | 0 => s
  | p + 1 => chg sz (pfx sz ord r s p) (ord p) (val sz r (ord p))
def pcf (n : Nat) (sz ord : Nat → Nat) (F : Nat → Bool) (p r : Nat) : Nat → Bool := cut (pr sz n) (fun s => F (pfx sz ord r s p))
def PP (sz ord : Nat → Nat) : Nat → Nat
  | 0 => 1
  | p + 1 => PP sz ord p * sz (ord p)
def QQ (n : Nat) (sz ord : Nat → Nat) : Nat → Nat
  | 0 => 1
  | m + 1 => QQ n sz ord m * sz (ord (n - 1 - m))
def prk (sz ord : Nat → Nat) (r : Nat) : Nat → Nat
  | 0 => 0
  | p + 1 => prk sz ord r p * sz (ord p) + val sz r (ord p)
def srk (n : Nat) (sz ord : Nat → Nat) (s : Nat) : Nat → Nat
  | 0 => 0
  | m + 1 => srk n sz ord s m * sz (ord (n - 1 - m)) + val sz s (ord (n - 1 - m))
def urn (n : Nat) (sz ord : Nat → Nat) : Nat → Nat → Nat
  | 0, _ => 0
  | m + 1, x => chg sz (urn n sz ord m (x / sz (ord (n - 1 - m)))) (ord (n - 1 - m)) (x % sz (ord (n - 1 - m)))
theorem dig_lt {a b s x : Nat} (h : a < b) (hx : x < s) : a * s + x < b * s := by
  have h2 : (a + 1) * s ≤ b * s := Nat.mul_le_mul_right _ h
  rw [Nat.add_mul, Nat.one_mul] at h2
  omega
theorem dig_inj {a b s x y : Nat} (hx : x < s) (hy : y < s) (e : a * s + x = b * s + y) : a = b ∧ x = y := by
  have h1 : (a * s + x) / s = a := by
    rw [Nat.mul_comm, Nat.mul_add_div (by omega), Nat.div_eq_of_lt hx, Nat.add_zero]
  have h2 : (b * s + y) / s = b := by
    rw [Nat.mul_comm, Nat.mul_add_div (by omega), Nat.div_eq_of_lt hy, Nat.add_zero]
  have h3 : a = b := by rw [← h1, ← h2, e]
  subst h3
  exact ⟨rfl, by omega⟩
section LV
variable {n : Nat} {sz ord pl : Nat → Nat}
theorem ord_ne (ho : prm n ord pl) {p q : Nat} (hp : p < n) (hq : q < n) (h : p ≠ q) : ord p ≠ ord q := fun e => h (by
  have h1 := (ho.1 p hp).2
  rw [e, (ho.1 q hq).2] at h1
  exact h1.symm)
theorem pfx_lt (hw : wf n sz) (ho : prm n ord pl) {r s : Nat} (hs : s < pr sz n) : ∀ {p : Nat}, p ≤ n → pfx sz ord r s p < pr sz n
  | 0, _ => hs
  | p + 1, h => chg_lt hw (ho.1 p (by omega)).1 (hw.val (ho.1 p (by omega)).1 r) (pfx_lt hw ho hs (by omega))
theorem pfx_val (hw : wf n sz) (ho : prm n ord pl) {r s q : Nat} (hq : q < n) : ∀ {p : Nat}, p ≤ n → val sz (pfx sz ord r s p) (ord q) = if q < p then val sz r (ord q) else val sz s (ord q)
  | 0, _ => by
    rw [if_neg (by omega)]
    rfl
  | p + 1, h => by
    have hp := (ho.1 p (by omega)).1
    show val sz (chg sz (pfx sz ord r s p) (ord p) (val sz r (ord p))) (ord q) = _
    by_cases c : q = p
    · subst c
      rw [chg_at hw hp (hw.val hp r), if_pos (by omega)]
    · rw [chg_ne hw hp (hw.val hp r) (ord_ne ho hq (by omega) c), pfx_val hw ho hq (by omega)]
      by_cases c2 : q < p
      · rw [if_pos c2, if_pos (by omega)]
      · rw [if_neg c2, if_neg (by omega)]
theorem ord_ext (ho : prm n ord pl) {r s : Nat} (hr : r < pr sz n) (hs : s < pr sz n) (h : ∀ q, q < n → val sz r (ord q) = val sz s (ord q)) : r = s := run_ext hr hs (fun u hu => by
  have hp := ho.2 u hu
  have := h (pl u) hp.1
  rw [hp.2] at this
  exact this)
theorem pcf_c (hw : wf n sz) (ho : prm n ord pl) {F : Nat → Bool} {p r r' : Nat} (hp : p ≤ n) (h : ∀ q, q < p → val sz r (ord q) = val sz r' (ord q)) : pcf n sz ord F p r = pcf n sz ord F p r' := tb_ext (cut_tb _ _) (cut_tb _ _) (fun s hs => by
  unfold pcf
  rw [cut_at _ hs, cut_at _ hs]
  refine congrArg F (ord_ext ho (pfx_lt hw ho hs hp) (pfx_lt hw ho hs hp) (fun q hq => ?_))
  rw [pfx_val hw ho hq hp, pfx_val hw ho hq hp]
  by_cases c : q < p
  · rw [if_pos c, if_pos c, h q c]
  · rw [if_neg c, if_neg c])
theorem pcf_s (hw : wf n sz) (ho : prm n ord pl) {F : Nat → Bool} {p r : Nat} (hp : p < n) : pcf n sz ord F (p + 1) r = cof n sz (pcf n sz ord F p r) (ord p) (val sz r (ord p)) := tb_ext (cut_tb _ _) (cof_tb _ _ _ _ _) (fun s hs => by
  have hv := (ho.1 p hp).1
  have hk := hw.val hv r
  have hc := chg_lt hw hv hk hs
  rw [cof_at hs]
  unfold pcf
  rw [cut_at _ hs, cut_at _ hc]
  refine congrArg F (ord_ext ho (pfx_lt hw ho hs (by omega)) (pfx_lt hw ho hc (by omega)) (fun q hq => ?_))
  rw [pfx_val hw ho hq (by omega), pfx_val hw ho hq (by omega)]
  by_cases c : q = p
  · subst c
    rw [if_pos (by omega), if_neg (by omega), chg_at hw hv hk]
  · by_cases c2 : q < p
    · rw [if_pos (by omega), if_pos c2]
    · rw [if_neg (by omega), if_neg c2, chg_ne hw hv hk (ord_ne ho hq hp c)])
theorem pcf_0 {F : Nat → Bool} (ht : tbT (pr sz n) F) (r : Nat) : pcf n sz ord F 0 r = F := tb_ext (cut_tb _ _) ht (fun s hs => by
  unfold pcf
  rw [cut_at _ hs]
  rfl)
theorem pcf_tb (F : Nat → Bool) (p r : Nat) : tbT (pr sz n) (pcf n sz ord F p r) := cut_tb _ _
/-- a table that comes from one of m functions, the variables before its first one being fixed -/
def isP (n : Nat) (sz ord : Nat → Nat) (m : Nat) (F : Nat → Nat → Bool) (g : Nat → Bool) : Prop := ∃ f, f < m ∧ ∃ r, r < pr sz n ∧ g = pcf n sz ord (F f) (fpl n sz ord g) r
theorem isP_up (hw : wf n sz) (ho : prm n ord pl) {F g : Nat → Bool} {r : Nat} (ht : tbT (pr sz n) g) : ∀ {k p : Nat}, p + k ≤ n → p + k ≤ fpl n sz ord g → g = pcf n sz ord F p r → g = pcf n sz ord F (p + k) r
  | 0, p, _, _, e => e
  | k + 1, p, h1, h2, e => by
    have hp : p < n := by omega
    have hv := (ho.1 p hp).1
    have e2 : g = pcf n sz ord F (p + 1) r := by
      rw [pcf_s hw ho hp, ← e, cof_no hw hv (hw.val hv r) ht (fpl_no (by omega))]
    have := isP_up hw ho ht (k := k) (p := p + 1) (by omega) (by omega) e2
    rw [show p + (k + 1) = p + 1 + k from by omega]
    exact this
theorem fpl_le (g : Nat → Bool) : fpl n sz ord g ≤ n := by
  have := (fbF_ok (fun p => dpT n sz g (ord p)) n 0).1.2
  show fbF _ n 0 ≤ n
  omega
theorem isP_root (hw : wf n sz) (ho : prm n ord pl) {m f : Nat} {F : Nat → Nat → Bool} (hf : f < m) (ht : tbT (pr sz n) (F f)) : isP n sz ord m F (F f) := ⟨f, hf, 0, hw.pos (Nat.le_refl n), by
  have := isP_up hw ho (F := F f) (r := 0) ht (k := fpl n sz ord (F f)) (p := 0) (by have := fpl_le (n := n) (sz := sz) (ord := ord) (F f); omega) (by omega) (pcf_0 ht 0).symm
  rw [Nat.zero_add] at this
  exact this⟩
theorem isP_kid (hw : wf n sz) (ho : prm n ord pl) {m : Nat} {F : Nat → Nat → Bool} {g : Nat → Bool} (hg : isP n sz ord m F g) (hp : fpl n sz ord g < n) {k : Nat} (hk : k < sz (ord (fpl n sz ord g))) : isP n sz ord m F (cof n sz g (ord (fpl n sz ord g)) k) := by
  obtain ⟨f, hf, r, hr, e⟩ := hg
  have hv := (ho.1 _ hp).1
  have hgt := fpl_gt hw ho hp hk
  generalize hP : fpl n sz ord g = P at *
  refine ⟨f, hf, chg sz r (ord P) k, chg_lt hw hv hk hr, ?_⟩
  have e1 : cof n sz g (ord P) k = pcf n sz ord (F f) (P + 1) (chg sz r (ord P) k) := by
    rw [pcf_s hw ho hp, chg_at hw hv hk, ← pcf_c hw ho (r := r) (by omega) (fun q hq => (chg_ne hw hv hk (ord_ne ho (by omega) hp (by omega))).symm), ← e]
  have hl := fpl_le (n := n) (sz := sz) (ord := ord) (cof n sz g (ord P) k)
  have := isP_up hw ho (cof_tb n sz g (ord P) k) (k := fpl n sz ord (cof n sz g (ord P) k) - (P + 1)) (p := P + 1) (by omega) (by omega) e1
  rw [show P + 1 + (fpl n sz ord (cof n sz g (ord P) k) - (P + 1)) = fpl n sz ord (cof n sz g (ord P) k) from by omega] at this
  exact this
theorem prk_lt (hw : wf n sz) (ho : prm n ord pl) (r : Nat) : ∀ {p : Nat}, p ≤ n → prk sz ord r p < PP sz ord p
  | 0, _ => Nat.one_pos
  | p + 1, h => dig_lt (prk_lt hw ho r (by omega)) (hw.val (ho.1 p (by omega)).1 r)
theorem prk_inj (hw : wf n sz) (ho : prm n ord pl) {r s : Nat} : ∀ {p : Nat}, p ≤ n → prk sz ord r p = prk sz ord s p → ∀ q, q < p → val sz r (ord q) = val sz s (ord q)
  | 0, _, _, q, hq => absurd hq (by omega)
  | p + 1, h, e, q, hq => by
    have hv := (ho.1 p (by omega)).1
    have := dig_inj (hw.val hv r) (hw.val hv s) e
    by_cases c : q = p
    · subst c
      exact this.2
    · exact prk_inj hw ho (by omega) this.1 q (by omega)
theorem urn_lt (hw : wf n sz) (ho : prm n ord pl) : ∀ {m : Nat} (x : Nat), m ≤ n → urn n sz ord m x < pr sz n
  | 0, _, _ => hw.pos (Nat.le_refl n)
  | m + 1, x, h => by
    have hv := (ho.1 (n - 1 - m) (by omega)).1
    exact chg_lt hw hv (Nat.mod_lt _ (hw.spos hv)) (urn_lt hw ho _ (by omega))
theorem val_0 (sz : Nat → Nat) (u : Nat) : val sz 0 u = 0 := by
  unfold val
  rw [Nat.zero_div, Nat.zero_mod]
theorem urn_val (hw : wf n sz) (ho : prm n ord pl) {s q : Nat} (hq : q < n) : ∀ {m : Nat}, m ≤ n → val sz (urn n sz ord m (srk n sz ord s m)) (ord q) = if n - m ≤ q then val sz s (ord q) else 0
  | 0, _ => by
    rw [if_neg (by omega)]
    exact val_0 sz _
  | m + 1, h => by
    have hv := (ho.1 (n - 1 - m) (by omega)).1
    have hs := hw.spos hv
    have hx := hw.val hv s
    have e1 : (srk n sz ord s m * sz (ord (n - 1 - m)) + val sz s (ord (n - 1 - m))) / sz (ord (n - 1 - m)) = srk n sz ord s m := by
      rw [Nat.mul_comm, Nat.mul_add_div hs, Nat.div_eq_of_lt hx, Nat.add_zero]
    have e2 : (srk n sz ord s m * sz (ord (n - 1 - m)) + val sz s (ord (n - 1 - m))) % sz (ord (n - 1 - m)) = val sz s (ord (n - 1 - m)) := by
      rw [Nat.mul_comm, Nat.mul_add_mod, Nat.mod_eq_of_lt hx]
    show val sz (chg sz (urn n sz ord m ((srk n sz ord s m * sz (ord (n - 1 - m)) + val sz s (ord (n - 1 - m))) / sz (ord (n - 1 - m)))) (ord (n - 1 - m)) ((srk n sz ord s m * sz (ord (n - 1 - m)) + val sz s (ord (n - 1 - m))) % sz (ord (n - 1 - m)))) (ord q) = _
    rw [e1, e2]
    by_cases c : q = n - 1 - m
    · rw [c, chg_at hw hv hx, if_pos (by omega)]
    · rw [chg_ne hw hv hx (ord_ne ho hq (by omega) c), urn_val hw ho hq (by omega)]
      by_cases c2 : n - m ≤ q
      · rw [if_pos c2, if_pos (by omega)]
      · rw [if_neg c2, if_neg (by omega)]
theorem srk_lt (hw : wf n sz) (ho : prm n ord pl) (s : Nat) : ∀ {m : Nat}, m ≤ n → srk n sz ord s m < QQ n sz ord m
  | 0, _ => Nat.one_pos
  | m + 1, h => dig_lt (srk_lt hw ho s (by omega)) (hw.val (ho.1 (n - 1 - m) (by omega)).1 s)
/-- a table that does not depend on the first p places is known by its values at few runs -/
theorem tb_urn (hw : wf n sz) (ho : prm n ord pl) {g h : Nat → Bool} {p : Nat} (hp : p ≤ n) (tg : tbT (pr sz n) g) (th : tbT (pr sz n) h) (hg : ∀ q, q < p → dpT n sz g (ord q) = false) (hh : ∀ q, q < p → dpT n sz h (ord q) = false) (e : ∀ x, x < QQ n sz ord (n - p) → g (urn n sz ord (n - p) x) = h (urn n sz ord (n - p) x)) : g = h := by
  have key : ∀ {f : Nat → Bool}, (∀ q, q < p → dpT n sz f (ord q) = false) → ∀ s, s < pr sz n → f s = f (urn n sz ord (n - p) (srk n sz ord s (n - p))) := fun {f} hf s hs => by
    have h1 : ∀ {k : Nat}, k ≤ p → f (pfx sz ord 0 s k) = f s := by
      intro k
      induction k with
      | zero => intro _; rfl
      | succ k ih =>
        intro hk
        have hv := (ho.1 k (by omega)).1
        show f (chg sz (pfx sz ord 0 s k) (ord k) (val sz 0 (ord k))) = f s
        rw [val_0, ← dpT_no (hf k (by omega)) (pfx_lt hw ho hs (by omega)), ih (by omega)]
    rw [← h1 (Nat.le_refl p)]
    refine congrArg f (ord_ext ho (pfx_lt hw ho hs hp) (urn_lt hw ho _ (by omega)) (fun q hq => ?_))
    rw [pfx_val hw ho hq hp, urn_val hw ho hq (by omega)]
    by_cases c : q < p
    · rw [if_pos c, if_neg (by omega), val_0]
    · rw [if_neg c, if_pos (by omega)]
  refine tb_ext tg th (fun s hs => ?_)
  rw [key hg s hs, key hh s hs, e _ (srk_lt hw ho s (by omega))]
theorem srk_urn (hw : wf n sz) (ho : prm n ord pl) : ∀ {m x : Nat}, m ≤ n → x < QQ n sz ord m → srk n sz ord (urn n sz ord m x) m = x
  | 0, x, _, hx => by
    have : QQ n sz ord 0 = 1 := rfl
    show 0 = x
    omega
  | m + 1, x, h, hx => by
    have hv := (ho.1 (n - 1 - m) (by omega)).1
    have hs := hw.spos hv
    have hx : x < QQ n sz ord m * sz (ord (n - 1 - m)) := hx
    have hd : x / sz (ord (n - 1 - m)) < QQ n sz ord m := by
      rw [Nat.div_lt_iff_lt_mul hs]
      exact hx
    have hml := Nat.mod_lt x hs
    have ih := srk_urn hw ho (m := m) (by omega) hd
    have hc : ∀ {k : Nat}, k ≤ m → srk n sz ord (urn n sz ord (m + 1) x) k = srk n sz ord (urn n sz ord m (x / sz (ord (n - 1 - m)))) k := by
      intro k
      induction k with
      | zero => intro _; rfl
      | succ k ihk =>
        intro hk
        have hu : val sz (urn n sz ord (m + 1) x) (ord (n - 1 - k)) = val sz (urn n sz ord m (x / sz (ord (n - 1 - m)))) (ord (n - 1 - k)) := chg_ne hw hv hml (ord_ne ho (by omega) (by omega) (by omega))
        show srk n sz ord _ k * _ + val sz _ _ = srk n sz ord _ k * _ + val sz _ _
        rw [ihk (by omega), hu]
    show srk n sz ord (urn n sz ord (m + 1) x) m * sz (ord (n - 1 - m)) + val sz (urn n sz ord (m + 1) x) (ord (n - 1 - m)) = x
    rw [hc (Nat.le_refl m), ih, show val sz (urn n sz ord (m + 1) x) (ord (n - 1 - m)) = x % sz (ord (n - 1 - m)) from chg_at hw hv hml, Nat.mul_comm]
    exact Nat.div_add_mod _ _
theorem QQ_le (hw : wf n sz) (ho : prm n ord pl) : QQ n sz ord n ≤ pr sz n := pigeon (fun x => urn n sz ord n x) (fun x _ => urn_lt hw ho x (Nat.le_refl n)) (fun x y hx hy e => by
  have e : urn n sz ord n x = urn n sz ord n y := e
  rw [← srk_urn hw ho (Nat.le_refl n) hx, ← srk_urn hw ho (Nat.le_refl n) hy, e])
theorem PQ {p : Nat} : p ≤ n → PP sz ord p * QQ n sz ord (n - p) = QQ n sz ord n := by
  induction p with
  | zero =>
    intro _
    show 1 * QQ n sz ord (n - 0) = _
    rw [Nat.one_mul, Nat.sub_zero]
  | succ p ih =>
    intro h
    have := ih (by omega)
    rw [show n - p = (n - (p + 1)) + 1 from by omega] at this
    have e : QQ n sz ord (n - (p + 1) + 1) = QQ n sz ord (n - (p + 1)) * sz (ord (n - 1 - (n - (p + 1)))) := rfl
    rw [e, show n - 1 - (n - (p + 1)) = p from by omega] at this
    show PP sz ord p * sz (ord p) * QQ n sz ord (n - (p + 1)) = _
    rw [← this, Nat.mul_assoc, Nat.mul_comm (sz (ord p))]
end LV
/-- pigeons of a kind -/
theorem cntB_rm {P : Nat → Bool} {j : Nat} (hj : P j = true) : ∀ {c : Nat}, j < c → cntB P c = cntB (fun i => P i && !decide (i = j)) c + 1
  | 0, h => absurd h (by omega)
  | c + 1, h => by
    show cntB P c + (if P c then 1 else 0) = cntB (fun i => P i && !decide (i = j)) c + (if (P c && !decide (c = j)) then 1 else 0) + 1
    by_cases e : j = c
    · subst e
      have e9 : cntB (fun i => P i && !decide (i = j)) j = cntB P j := cntB_cg (fun i hi => by rw [decide_eq_false (show ¬ i = j by omega)]; simp)
      rw [hj, decide_eq_true (show j = j from rfl), e9]
      simp
    · have := cntB_rm hj (c := c) (by omega)
      rw [decide_eq_false (show ¬ c = j by omega)]
      simp only [Bool.not_false, Bool.and_true]
      omega
theorem pigeonC : ∀ {b : Nat} {P : Nat → Bool} {c : Nat} (R : Nat → Nat → Prop), (∀ j, j < c → P j = true → ∃ x, x < b ∧ R j x) → (∀ i j x, i < c → j < c → P i = true → P j = true → R i x → R j x → i = j) → cntB P c ≤ b
  | 0, P, c, R, h1, _ => by
    rw [cntB_z.mpr (fun i hi => by
      cases e : P i with
      | false => rfl
      | true =>
        obtain ⟨x, hx, _⟩ := h1 i hi e
        exact absurd hx (by omega))]
    omega
  | b + 1, P, c, R, h1, h2 => by
    by_cases ex : ∃ j, j < c ∧ P j = true ∧ R j b
    · obtain ⟨j, hj, hP, hR⟩ := ex
      rw [cntB_rm hP hj]
      have := pigeonC (b := b) (P := fun i => P i && !decide (i = j)) (c := c) R (fun i hi hPi => by
        have hPi := Bool.and_eq_true_iff.mp hPi
        obtain ⟨x, hx, hRx⟩ := h1 i hi hPi.1
        refine ⟨x, ?_, hRx⟩
        by_cases cx : x = b
        · subst cx
          have := h2 i j x hi hj hPi.1 hP hRx hR
          rw [decide_eq_true this] at hPi
          exact absurd hPi.2 (by decide)
        · omega) (fun i k x hi hk hPi hPk => h2 i k x hi hk (Bool.and_eq_true_iff.mp hPi).1 (Bool.and_eq_true_iff.mp hPk).1)
      omega
    · have := pigeonC (b := b) (P := P) (c := c) R (fun i hi hPi => by
        obtain ⟨x, hx, hRx⟩ := h1 i hi hPi
        refine ⟨x, ?_, hRx⟩
        by_cases cx : x = b
        · subst cx
          exact absurd ⟨i, hi, hPi, hRx⟩ ex
        · omega) h2
      omega
def sumN (f : Nat → Nat) : Nat → Nat
  | 0 => 0
  | k + 1 => sumN f k + f k
/-- a count is the sum of the counts by kinds -/
theorem cnt_sum {m : Nat} (lv : Nat → Nat) : ∀ {c : Nat}, (∀ j, j < c → lv j < m) → c = sumN (fun p => cntB (fun j => decide (lv j = p)) c) m
  | 0, _ => by
    have : ∀ m, sumN (fun p => cntB (fun j => decide (lv j = p)) 0) m = 0 := by
      intro m
      induction m with
      | zero => rfl
      | succ m ih =>
        show sumN _ m + 0 = 0
        rw [ih]
    exact (this m).symm
  | c + 1, h => by
    have ih := cnt_sum lv (c := c) (fun j hj => h j (by omega))
    have hl := h c (by omega)
    have : ∀ m, sumN (fun p => cntB (fun j => decide (lv j = p)) (c + 1)) m = sumN (fun p => cntB (fun j => decide (lv j = p)) c) m + (if lv c < m then 1 else 0) := by
      intro m
      induction m with
      | zero => rfl
      | succ m ihm =>
        show sumN _ m + (cntB (fun j => decide (lv j = m)) c + (if decide (lv c = m) then 1 else 0)) = sumN _ m + cntB (fun j => decide (lv j = m)) c + (if lv c < m + 1 then 1 else 0)
        rw [ihm]
        by_cases c1 : lv c < m
        · rw [if_pos c1, decide_eq_false (show ¬ lv c = m by omega), if_pos (show lv c < m + 1 by omega), if_neg (by decide)]
          omega
        · rw [if_neg c1]
          by_cases c2 : lv c = m
          · rw [decide_eq_true c2, if_pos (show lv c < m + 1 by omega), if_pos rfl]
            omega
          · rw [decide_eq_false c2, if_neg (show ¬ lv c < m + 1 by omega), if_neg (by decide)]
            omega
    rw [this m, if_pos hl, ← ih]
