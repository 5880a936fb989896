/-! ===== runs as digits ===== -/
def chg (sz : Nat → Nat) (r v y : Nat) : Nat := r / pr sz (v + 1) * pr sz (v + 1) + y * pr sz v + r % pr sz v
theorem pr_succ (sz : Nat → Nat) (v : Nat) : pr sz (v + 1) = pr sz v * sz v := rfl
theorem pr_dvd (sz : Nat → Nat) {i : Nat} : ∀ {j : Nat}, i ≤ j → pr sz i ∣ pr sz j
  | 0, h => by
    obtain rfl : i = 0 := by omega
    exact Nat.dvd_refl _
  | j + 1, h => by
    by_cases e : i = j + 1
    · subst e
      exact Nat.dvd_refl _
    · exact Nat.dvd_trans (pr_dvd sz (j := j) (by omega)) ⟨sz j, rfl⟩
theorem run_split (sz : Nat → Nat) (r v : Nat) : r = r / pr sz (v + 1) * pr sz (v + 1) + val sz r v * pr sz v + r % pr sz v := by
  have h1 := Nat.div_add_mod r (pr sz v)
  have h2 := Nat.div_add_mod (r / pr sz v) (sz v)
  have h3 : r / pr sz (v + 1) = r / pr sz v / sz v := by rw [pr_succ, Nat.div_div_eq_div_mul]
  rw [h3, pr_succ]
  unfold val
  generalize r / pr sz v / sz v = a at *
  generalize r / pr sz v % sz v = b at *
  generalize r % pr sz v = c at *
  rw [← h2] at h1
  rw [← h1]
  rw [Nat.mul_add, ← Nat.mul_assoc, Nat.mul_comm b, Nat.mul_comm a, Nat.mul_assoc]
theorem chg_val (sz : Nat → Nat) (r v : Nat) : chg sz r v (val sz r v) = r := (run_split sz r v).symm
theorem chg_int (sz : Nat → Nat) (r v y : Nat) : (r : Int) + ((y : Int) - (val sz r v : Nat)) * (pr sz v : Nat) = (chg sz r v y : Nat) := by
  have h := run_split sz r v
  unfold chg
  rw [Int.sub_mul]
  have h2 : ((r / pr sz (v + 1) * pr sz (v + 1) + y * pr sz v + r % pr sz v : Nat) : Int) = ((r / pr sz (v + 1) * pr sz (v + 1) : Nat) : Int) + (y : Int) * (pr sz v : Nat) + ((r % pr sz v : Nat) : Int) := by
    rw [Int.natCast_add, Int.natCast_add, Int.natCast_mul y]
  rw [h2]
  have h3 : (r : Int) = ((r / pr sz (v + 1) * pr sz (v + 1) : Nat) : Int) + (val sz r v : Nat) * (pr sz v : Nat) + ((r % pr sz v : Nat) : Int) := by
    rw [← Int.natCast_mul (val sz r v), ← Int.natCast_add, ← Int.natCast_add]
    exact congrArg Nat.cast h
  generalize hA : ((r / pr sz (v + 1) * pr sz (v + 1) : Nat) : Int) = A at *
  generalize hB : (val sz r v : Int) * (pr sz v : Nat) = B at *
  generalize hC : ((r % pr sz v : Nat) : Int) = C at *
  generalize hY : (y : Int) * (pr sz v : Nat) = Y at *
  omega
section RN
variable {n : Nat} {sz : Nat → Nat}
theorem wf.spos (hw : wf n sz) {v : Nat} (hv : v < n) : 0 < sz v := by have := hw.2.1 v hv; omega
theorem chg_hi (hw : wf n sz) {r v y : Nat} (hv : v < n) (hy : y < sz v) : chg sz r v y / pr sz (v + 1) = r / pr sz (v + 1) := by
  have hp := hw.pos (i := v) (by omega)
  have hp1 := hw.pos (i := v + 1) (by omega)
  have hl : r % pr sz v < pr sz v := Nat.mod_lt _ hp
  unfold chg
  rw [Nat.add_assoc, Nat.mul_comm, Nat.mul_add_div hp1]
  have : (y * pr sz v + r % pr sz v) / pr sz (v + 1) = 0 := by
    refine Nat.div_eq_of_lt ?_
    have h1 : (y + 1) * pr sz v ≤ sz v * pr sz v := Nat.mul_le_mul_right _ hy
    rw [Nat.add_mul, Nat.one_mul] at h1
    rw [pr_succ, Nat.mul_comm (pr sz v) (sz v)]
    omega
  omega
theorem chg_lo (hw : wf n sz) {r v y : Nat} (hv : v < n) : chg sz r v y % pr sz v = r % pr sz v := by
  unfold chg
  rw [Nat.add_mod, Nat.mod_mod]
  have : (r / pr sz (v + 1) * pr sz (v + 1) + y * pr sz v) % pr sz v = 0 := by
    rw [pr_succ, Nat.mul_comm (pr sz v), ← Nat.mul_assoc, ← Nat.add_mul]
    exact Nat.mul_mod_left _ _
  rw [this, Nat.zero_add, Nat.mod_mod]
theorem chg_at (hw : wf n sz) {r v y : Nat} (hv : v < n) (hy : y < sz v) : val sz (chg sz r v y) v = y := by
  have hp := hw.pos (i := v) (by omega)
  have h1 := run_split sz (chg sz r v y) v
  rw [chg_hi hw hv hy, chg_lo hw hv] at h1
  have h2 : chg sz r v y = r / pr sz (v + 1) * pr sz (v + 1) + y * pr sz v + r % pr sz v := rfl
  have h3 : val sz (chg sz r v y) v * pr sz v = y * pr sz v := by omega
  exact Nat.eq_of_mul_eq_mul_right hp h3
theorem val_mod {r u v : Nat} (h : u < v) : val sz (r % pr sz v) u = val sz r u := by
  have e : ∀ x, val sz x u = x % pr sz (u + 1) / pr sz u := fun x => by
    unfold val
    rw [pr_succ, Nat.mod_mul_right_div_self]
  rw [e, e, Nat.mod_mod_of_dvd _ (pr_dvd sz (by omega))]
theorem val_div {r s u v : Nat} (h : v < u) (e : r / pr sz (v + 1) = s / pr sz (v + 1)) : val sz r u = val sz s u := by
  obtain ⟨k, hk⟩ := pr_dvd sz (show v + 1 ≤ u by omega)
  unfold val
  rw [hk, ← Nat.div_div_eq_div_mul, ← Nat.div_div_eq_div_mul, e]
theorem chg_ne (hw : wf n sz) {r u v y : Nat} (hv : v < n) (hy : y < sz v) (h : u ≠ v) : val sz (chg sz r v y) u = val sz r u := by
  by_cases c : u < v
  · rw [← val_mod c, chg_lo hw hv, val_mod c]
  · exact val_div (by omega) (chg_hi hw hv hy)
theorem chg_lt (hw : wf n sz) {r v y : Nat} (hv : v < n) (hy : y < sz v) (hr : r < pr sz n) : chg sz r v y < pr sz n := by
  have hp := hw.pos (i := v + 1) (by omega)
  obtain ⟨k, hk⟩ := pr_dvd sz (show v + 1 ≤ n by omega)
  have h1 : r / pr sz (v + 1) < k := by
    rw [Nat.div_lt_iff_lt_mul hp, Nat.mul_comm, ← hk]
    exact hr
  rw [← chg_hi hw hv hy, Nat.div_lt_iff_lt_mul hp, Nat.mul_comm, ← hk] at h1
  exact h1
theorem run_ext_mod {r s : Nat} : ∀ {m : Nat}, (∀ u, u < m → val sz r u = val sz s u) → r % pr sz m = s % pr sz m
  | 0, _ => by rw [show pr sz 0 = 1 from rfl, Nat.mod_one, Nat.mod_one]
  | m + 1, h => by
    have ih := run_ext_mod (m := m) (fun u hu => h u (by omega))
    have := h m (by omega)
    unfold val at this
    rw [pr_succ, Nat.mod_mul, Nat.mod_mul, ih, this]
theorem run_ext {r s : Nat} (hr : r < pr sz n) (hs : s < pr sz n) (h : ∀ u, u < n → val sz r u = val sz s u) : r = s := by
  have := run_ext_mod h
  rwa [Nat.mod_eq_of_lt hr, Nat.mod_eq_of_lt hs] at this
theorem chg_chg (hw : wf n sz) {r v x y : Nat} (hv : v < n) (hx : x < sz v) : chg sz (chg sz r v x) v y = chg sz r v y := by
  have h1 := chg_hi hw (r := r) hv hx
  have h2 := chg_lo hw (r := r) (y := x) hv
  show chg sz r v x / pr sz (v + 1) * pr sz (v + 1) + y * pr sz v + chg sz r v x % pr sz v = _
  rw [h1, h2]
  rfl
theorem chg_comm (hw : wf n sz) {r u v x y : Nat} (hu : u < n) (hv : v < n) (hx : x < sz u) (hy : y < sz v) (h : u ≠ v) (hr : r < pr sz n) : chg sz (chg sz r u x) v y = chg sz (chg sz r v y) u x := by
  refine run_ext (n := n) (chg_lt hw hv hy (chg_lt hw hu hx hr)) (chg_lt hw hu hx (chg_lt hw hv hy hr)) (fun w hw' => ?_)
  by_cases c1 : w = v
  · subst c1
    rw [chg_at hw hv hy, chg_ne hw hu hx (Ne.symm h), chg_at hw hv hy]
  · by_cases c2 : w = u
    · subst c2
      rw [chg_at hw hu hx, chg_ne hw hv hy c1, chg_at hw hu hx]
    · rw [chg_ne hw hv hy c1, chg_ne hw hu hx c2, chg_ne hw hu hx c2, chg_ne hw hv hy c1]
end RN
/-- class's way to say valueIn, for any number of a variable -/
def vlI (n : Nat) (sz : Nat → Nat) (x : Int) (r : Nat) : Int := if 0 ≤ x ∧ x < n then (val sz r x.toNat : Nat) else 0
theorem vlI_v {n : Nat} {sz : Nat → Nat} {v r : Nat} (h : v < n) : vlI n sz v r = (val sz r v : Nat) := by
  unfold vlI
  rw [if_pos ⟨by omega, by omega⟩]
  rfl
theorem vlI_rg {n : Nat} {sz : Nat → Nat} (hw : wf n sz) (x : Int) (r : Nat) : 0 ≤ vlI n sz x r ∧ vlI n sz x r ≤ 5 := by
  unfold vlI
  split
  · have h1 := hw.2.1 x.toNat (by omega)
    have h2 := hw.val (v := x.toNat) (by omega) r
    omega
  · omega
section CV
variable {X : List Int32} {S : ST} {n : Nat} {sz : Nat → Nat}
theorem c_vl (hv : vC S n sz) {r : Nat} {x : Int} (hr : r < 2147483648) (hx : rg x) : sM X 0 18 [.ref 1, .int (iI r), .int (iI x)] S (sV (some (.int (iI (vlI n sz x r)))) S) := c_valueIn hv hr hx
theorem c_val (hv : vC S n sz) {r v : Nat} (hr : r < 2147483648) (hx : v < n) : sM X 0 18 [.ref 1, .int (iI r), .int (iI v)] S (sV (some (.int (iI (val sz r v : Nat)))) S) := by
  have h := c_vl (X := X) hv hr (x := (v : Int)) ⟨by omega, by have := hv.1.1; omega⟩
  rw [vlI_v hx] at h
  exact h
theorem c_str (hv : vC S n sz) {v : Nat} (hx : v < n) : sM X 0 16 [.ref 1, .int (iI v)] S (sV (some (.int (iI (pr sz v : Nat)))) S) := by
  have h := c_strideOf (X := X) hv (x := (v : Int)) ⟨by omega, by have := hv.1.1; omega⟩
  rw [if_pos ⟨by omega, by omega⟩] at h
  exact h
theorem c_siz (hv : vC S n sz) {v : Nat} (hx : v < n) : sM X 0 15 [.ref 1, .int (iI v)] S (sV (some (.int (iI (sz v : Nat)))) S) := by
  have h := c_sizeOf (X := X) hv (x := (v : Int)) ⟨by omega, by have := hv.1.1; omega⟩
  rw [if_pos ⟨by omega, by omega⟩] at h
  exact h
end CV
/-- a row that is marked run by run -/
def mk (f : Nat → Bool) (P : Nat → Bool) (i : Nat) : Nat → Bool := fun r => f r || (decide (r < i) && P r)
theorem mk_0 (f P : Nat → Bool) : mk f P 0 = f := funext fun r => by unfold mk; simp
theorem mk_t {S : ST} {a o i : Nat} {f P : Nat → Bool} (h : P i = true) : wRw (wRw S a o (mk f P i)) a o (fun s => mk f P i s || decide (s = i)) = wRw S a o (mk f P (i + 1)) := by
  rw [wRw_wRw]
  refine wRw_eq (fun r _ => ?_)
  unfold mk
  by_cases c : r = i
  · subst c
    simp [h]
  · have e : decide (r < i + 1) = decide (r < i) := decide_eq_decide.mpr ⟨fun _ => by omega, fun _ => by omega⟩
    simp [c, e]
theorem mk_f {S : ST} {a o i : Nat} {f P : Nat → Bool} (h : P i = false) : wRw S a o (mk f P i) = wRw S a o (mk f P (i + 1)) := by
  refine wRw_eq (fun r _ => ?_)
  unfold mk
  by_cases c : r = i
  · subst c
    simp [h]
  · have e : decide (r < i + 1) = decide (r < i) := decide_eq_decide.mpr ⟨fun _ => by omega, fun _ => by omega⟩
    rw [e]
theorem mk_s {S : ST} {a o : Nat} {f P : Nat → Bool} (h : rowS S a o f) : wRw S a o (mk f P 0) = S := by
  rw [mk_0]
  exact wRw_same h
section SBB
variable {X : List Int32} {d m pc p len q : Nat} {ns : Bool} {ls : xx_L} {r : List Value} {S : ST} {K : Nat → xx_L → List Value → ST → Prop}
theorem bI_inj {a b : Bool} : bI a = bI b ↔ a = b := by cases a <;> cases b <;> decide
theorem sIb_eq {o : Int} {a b : Bool} (he : ((xt_P X).1 m).1 pc = some (.if_icmp .eq o, len, q, ns)) (hp : pc + len = p) (kt : a = b → sT X d m q ls r S K) (kf : ¬ a = b → sT X d m p ls r S K) : sT X d m pc ls (.int (iI (bI b)) :: .int (iI (bI a)) :: r) S K := sIc_eq he hp (rg_bI a) (rg_bI b) (fun c => kt (bI_inj.mp c)) (fun c => kf (fun z => c (bI_inj.mpr z)))
theorem sIb_ne {o : Int} {a b : Bool} (he : ((xt_P X).1 m).1 pc = some (.if_icmp .ne o, len, q, ns)) (hp : pc + len = p) (kt : ¬ a = b → sT X d m q ls r S K) (kf : a = b → sT X d m p ls r S K) : sT X d m pc ls (.int (iI (bI b)) :: .int (iI (bI a)) :: r) S K := sIc_ne he hp (rg_bI a) (rg_bI b) (fun c => kt (fun z => c (bI_inj.mpr z))) (fun c => kf (bI_inj.mp c))
theorem sKj0 {c : Fin 2} (he : ((xt_P X).1 m).1 pc = some (.lconst c, len, q, ns)) (hp : pc + len = p) (hc : c.val = 0) (kk : sT X d m p ls (.long (lI 0) :: r) S K) : sT X d m pc ls r S K := sKj he hp (by rw [hc]; exact kk)
theorem sKj1 {c : Fin 2} (he : ((xt_P X).1 m).1 pc = some (.lconst c, len, q, ns)) (hp : pc + len = p) (hc : c.val = 1) (kk : sT X d m p ls (.long (lI 1) :: r) S K) : sT X d m pc ls r S K := sKj he hp (by rw [hc]; exact kk)
theorem sInX {j : Nat} {n z : Int} {ls' : xx_L} {st : List Value} (he : ((xt_P X).1 m).1 pc = some (.iinc j n, len, q, ns)) (hp : pc + len = p) (hj : j < ls.length) (hz : ls[j]? = some (some (.int (iI z)))) (hl : xx_set1 ls j (.int (iI (z + n))) = ls') (k : sT X d m p ls' st S K) : sT X d m pc ls st S K := by
  subst hl
  exact sIn he hp hj hz k
theorem sIni {y : Nat} {as : List Value} {Q : Option Value → ST → Prop} (hl : xx_ent ((xt_P X).1 y).2.1 as = ls) (k : sT X d y 0 ls [] S (sE X y Q)) : sM X d y as S Q := by
  subst hl
  exact k
theorem SL_wLA_s (S : ST) (a : Nat) (g : Nat → Int64) (k : Nat) : SL (wLA S a g) a k = g k := by rw [SL_wLA, if_pos rfl]
theorem SI_wIA_s (S : ST) (a : Nat) (g : Nat → Int) (k : Nat) : SI (wIA S a g) a k = g k := by rw [SI_wIA, if_pos rfl]
end SBB
