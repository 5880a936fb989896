/-! ===== tables: dependence, cofactors ===== -/
def cof (n : Nat) (sz : Nat → Nat) (g : Nat → Bool) (v k : Nat) : Nat → Bool := cut (pr sz n) (fun r => g (chg sz r v k))
theorem cut_tb (T : Nat) (p : Nat → Bool) : tbT T (cut T p) := fun r hr => by
  unfold cut
  rw [decide_eq_false (by omega)]
  rfl
theorem cut_at {T r : Nat} (p : Nat → Bool) (h : r < T) : cut T p r = p r := by
  unfold cut
  rw [decide_eq_true h]
  rfl
theorem cof_tb (n : Nat) (sz : Nat → Nat) (g : Nat → Bool) (v k : Nat) : tbT (pr sz n) (cof n sz g v k) := cut_tb _ _
theorem cof_at {n : Nat} {sz : Nat → Nat} {g : Nat → Bool} {v k r : Nat} (h : r < pr sz n) : cof n sz g v k r = g (chg sz r v k) := cut_at _ h
theorem tb_ext {T : Nat} {f g : Nat → Bool} (hf : tbT T f) (hg : tbT T g) (h : ∀ r, r < T → f r = g r) : f = g := funext fun r => by
  by_cases c : r < T
  · exact h r c
  · rw [hf r (by omega), hg r (by omega)]
section CF
variable {n : Nat} {sz : Nat → Nat} {g : Nat → Bool}
theorem dpT_iff {v : Nat} : dpT n sz g v = true ↔ ∃ r, r < pr sz n ∧ g r ≠ g (chg sz r v 0) := by
  unfold dpT
  rw [anyB_iff]
  constructor
  · rintro ⟨r, h1, h2⟩
    exact ⟨r, h1, bne_iff_ne.mp h2⟩
  · rintro ⟨r, h1, h2⟩
    exact ⟨r, h1, bne_iff_ne.mpr h2⟩
theorem dpT_no {v : Nat} (h : dpT n sz g v = false) {r : Nat} (hr : r < pr sz n) : g r = g (chg sz r v 0) := Classical.byContradiction fun c => by
  rw [dpT_iff.mpr ⟨r, hr, c⟩] at h
  cases h
theorem dpT_chg (hw : wf n sz) {v k : Nat} (hv : v < n) (hk : k < sz v) (h : dpT n sz g v = false) {r : Nat} (hr : r < pr sz n) : g (chg sz r v k) = g r := by
  rw [dpT_no h (chg_lt hw hv hk hr), chg_chg hw hv hk, ← dpT_no h hr]
theorem dpT_of (hw : wf n sz) {v : Nat} (hv : v < n) (h : ∀ r, r < pr sz n → ∀ k, k < sz v → g (chg sz r v k) = g r) : dpT n sz g v = false := by
  cases e : dpT n sz g v with
  | false => rfl
  | true =>
    obtain ⟨r, h1, h2⟩ := dpT_iff.mp e
    exact absurd (h r h1 0 (hw.spos hv)).symm h2
theorem cof_self (hw : wf n sz) {v k : Nat} (hv : v < n) (hk : k < sz v) : dpT n sz (cof n sz g v k) v = false := dpT_of hw hv (fun r hr j hj => by
  rw [cof_at (chg_lt hw hv hj hr), cof_at hr, chg_chg hw hv hj])
theorem cof_other (hw : wf n sz) {u v k : Nat} (hu : u < n) (hv : v < n) (hk : k < sz v) (hd : dpT n sz g u = false) : dpT n sz (cof n sz g v k) u = false := by
  by_cases c : u = v
  · subst c
    exact cof_self hw hv hk
  · refine dpT_of hw hu (fun r hr j hj => ?_)
    rw [cof_at (chg_lt hw hu hj hr), cof_at hr, chg_comm hw hu hv hj hk c hr, dpT_chg hw hu hj hd (chg_lt hw hv hk hr)]
/-- the cofactor of a table by a variable that it does not depend on is the table -/
theorem cof_no (hw : wf n sz) {v k : Nat} (hv : v < n) (hk : k < sz v) (ht : tbT (pr sz n) g) (hd : dpT n sz g v = false) : cof n sz g v k = g := tb_ext (cof_tb _ _ _ _ _) ht (fun r hr => by rw [cof_at hr, dpT_chg hw hv hk hd hr])
/-- cofactors that are all one: no dependence -/
theorem dpT_cof (hw : wf n sz) {v : Nat} (hv : v < n) (h : ∀ k, k < sz v → cof n sz g v k = cof n sz g v 0) : dpT n sz g v = false := dpT_of hw hv (fun r hr k hk => by
  have h1 := congrFun (h k hk) r
  have h2 := congrFun (h (val sz r v) (hw.val hv r)) r
  rw [cof_at hr, cof_at hr] at h1 h2
  rw [h1, ← h2, chg_val])
/-- the run with its digits from m on put to 0 -/
def zro (sz : Nat → Nat) (r : Nat) : Nat → Nat
  | 0 => r
  | m + 1 => chg sz (zro sz r m) m 0
theorem zro_lt (hw : wf n sz) {r : Nat} (hr : r < pr sz n) : ∀ {m : Nat}, m ≤ n → zro sz r m < pr sz n
  | 0, _ => hr
  | m + 1, h => chg_lt hw (by omega) (hw.spos (by omega)) (zro_lt hw hr (by omega))
theorem zro_val (hw : wf n sz) {r u : Nat} : ∀ {m : Nat}, m ≤ n → u < m → val sz (zro sz r m) u = 0
  | 0, _, h => absurd h (by omega)
  | m + 1, hm, h => by
    show val sz (chg sz (zro sz r m) m 0) u = 0
    by_cases c : u = m
    · subst c
      exact chg_at hw (by omega) (hw.spos (by omega))
    · rw [chg_ne hw (by omega) (hw.spos (by omega)) c]
      exact zro_val hw (by omega) (by omega)
theorem zro_n (hw : wf n sz) {r : Nat} (hr : r < pr sz n) : zro sz r n = 0 := run_ext (n := n) (zro_lt hw hr (Nat.le_refl n)) (hw.pos (Nat.le_refl n)) (fun u hu => by
  rw [zro_val hw (Nat.le_refl n) hu]
  unfold val
  rw [Nat.zero_div, Nat.zero_mod])
theorem zro_g (hw : wf n sz) (hd : ∀ v, v < n → dpT n sz g v = false) {r : Nat} (hr : r < pr sz n) : ∀ {m : Nat}, m ≤ n → g (zro sz r m) = g r
  | 0, _ => rfl
  | m + 1, h => by
    show g (chg sz (zro sz r m) m 0) = g r
    rw [← dpT_no (hd m (by omega)) (zro_lt hw hr (by omega)), zro_g hw hd hr (by omega)]
/-- what depends on nothing is a leaf -/
theorem lfv_of (hw : wf n sz) (ht : tbT (pr sz n) g) (hd : ∀ v, v < n → dpT n sz g v = false) : lfv (pr sz n) g ≠ -1 := by
  have h0 := hw.pos (Nat.le_refl n)
  have hT := hw.2.2
  have hc : ∀ r, r < pr sz n → g r = g 0 := fun r hr => by
    rw [← zro_g hw hd hr (Nat.le_refl n), zro_n hw hr]
  cases e : g 0 with
  | false =>
    have := (lfv_0 hT h0 ht).mpr (fun r hr => by rw [hc r hr, e])
    omega
  | true =>
    have := (lfv_1 hT h0 ht).mpr (fun r hr => by rw [hc r hr, e])
    omega
theorem lfv_no (hw : wf n sz) (ht : tbT (pr sz n) g) {v : Nat} (hd : dpT n sz g v = true) (hv : v < n) : lfv (pr sz n) g = -1 := by
  have h0 := hw.pos (Nat.le_refl n)
  have hT := hw.2.2
  obtain ⟨r, h1, h2⟩ := dpT_iff.mp hd
  have h3 := chg_lt hw hv (hw.spos hv) h1
  rcases lfv_v (pr sz n) g with c | c | c
  · have := (lfv_0 hT h0 ht).mp c
    exact absurd ((this r h1).trans (this _ h3).symm) h2
  · have := (lfv_1 hT h0 ht).mp c
    exact absurd ((this r h1).trans (this _ h3).symm) h2
  · exact c
end CF
/-- an order of the variables: places and variables -/
def prm (n : Nat) (ord pl : Nat → Nat) : Prop := (∀ p, p < n → ord p < n ∧ pl (ord p) = p) ∧ (∀ v, v < n → pl v < n ∧ ord (pl v) = v)
section OR
variable {n : Nat} {sz ord pl : Nat → Nat} {g : Nat → Bool}
theorem fpl_lt (hw : wf n sz) (ho : prm n ord pl) (ht : tbT (pr sz n) g) (h : lfv (pr sz n) g = -1) : fpl n sz ord g < n := by
  have hk := fbF_ok (fun p => dpT n sz g (ord p)) n 0
  refine Classical.byContradiction fun c => lfv_of hw ht (fun v hv => ?_) h
  have hp := ho.2 v hv
  have := hk.2.1 (pl v) (by omega) (by show pl v < fpl n sz ord g; omega)
  have this : dpT n sz g (ord (pl v)) = false := this
  rw [hp.2] at this
  exact this
theorem fpl_dep (h : fpl n sz ord g < n) : dpT n sz g (ord (fpl n sz ord g)) = true := (fbF_ok (fun p => dpT n sz g (ord p)) n 0).2.2 (by show fpl n sz ord g < 0 + n; omega)
theorem fpl_no {p : Nat} (h : p < fpl n sz ord g) : dpT n sz g (ord p) = false := (fbF_ok (fun p => dpT n sz g (ord p)) n 0).2.1 p (by omega) h
theorem fpl_eq {p : Nat} (hp : p < n) (hd : dpT n sz g (ord p) = true) (hb : ∀ q, q < p → dpT n sz g (ord q) = false) : fpl n sz ord g = p := fbF_eq hp hd hb
/-- a cofactor by the first variable depends on later ones alone -/
theorem fpl_cof (hw : wf n sz) (ho : prm n ord pl) (h : fpl n sz ord g < n) {k : Nat} (hk : k < sz (ord (fpl n sz ord g))) {p : Nat} (hp : p ≤ fpl n sz ord g) : dpT n sz (cof n sz g (ord (fpl n sz ord g)) k) (ord p) = false := by
  have hv := (ho.1 _ h).1
  by_cases c : p = fpl n sz ord g
  · rw [c]
    exact cof_self hw hv hk
  · exact cof_other hw (ho.1 p (by omega)).1 hv hk (fpl_no (by omega))
theorem fpl_gt (hw : wf n sz) (ho : prm n ord pl) (h : fpl n sz ord g < n) {k : Nat} (hk : k < sz (ord (fpl n sz ord g))) : fpl n sz ord g < fpl n sz ord (cof n sz g (ord (fpl n sz ord g)) k) := by
  have hk2 := fbF_ok (fun p => dpT n sz (cof n sz g (ord (fpl n sz ord g)) k) (ord p)) n 0
  refine Classical.byContradiction fun c => ?_
  have c2 : fpl n sz ord (cof n sz g (ord (fpl n sz ord g)) k) ≤ fpl n sz ord g := by omega
  have h1 := fpl_dep (n := n) (sz := sz) (ord := ord) (g := cof n sz g (ord (fpl n sz ord g)) k) (by omega)
  have h2 := fpl_cof hw ho h hk c2
  rw [h1] at h2
  cases h2
end OR
