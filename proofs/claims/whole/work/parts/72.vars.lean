/-! ===== the variables: sizes, strides, values in runs; the class's picture of them ===== -/
def pr (sz : Nat → Nat) : Nat → Nat
  | 0 => 1
  | i + 1 => pr sz i * sz i
/-- the value of a variable in a run -/
def val (sz : Nat → Nat) (r v : Nat) : Nat := r / pr sz v % sz v
def wf (n : Nat) (sz : Nat → Nat) : Prop := n ≤ 10 ∧ (∀ i, i < n → 2 ≤ sz i ∧ sz i ≤ 6) ∧ pr sz n ≤ 1024
def vC (S : ST) (n : Nat) (sz : Nat → Nat) : Prop := wf n sz ∧ SI S 1 6 = n ∧ SI S 1 7 = (pr sz n : Nat) ∧ (∀ i, i < n → SI S 2 i = (sz i : Nat)) ∧ (∀ i, i < n → SI S 3 i = (pr sz i : Nat))
theorem pr_pos {n : Nat} {sz : Nat → Nat} (h : ∀ i, i < n → 2 ≤ sz i) : ∀ {i : Nat}, i ≤ n → 0 < pr sz i
  | 0, _ => Nat.one_pos
  | i + 1, hi => Nat.mul_pos (pr_pos h (i := i) (by omega)) (by have := h i (by omega); omega)
theorem pr_mono {n : Nat} {sz : Nat → Nat} (h : ∀ i, i < n → 2 ≤ sz i) {i : Nat} : ∀ {j : Nat}, i ≤ j → j ≤ n → pr sz i ≤ pr sz j
  | 0, hij, _ => by
    have : i = 0 := by omega
    subst this
    exact Nat.le_refl _
  | j + 1, hij, hj => by
    by_cases e : i = j + 1
    · subst e
      exact Nat.le_refl _
    · refine Nat.le_trans (pr_mono h (j := j) (by omega) (by omega)) ?_
      show pr sz j ≤ pr sz j * sz j
      exact Nat.le_mul_of_pos_right _ (by have := h j (by omega); omega)
theorem wf.pos {n : Nat} {sz : Nat → Nat} (h : wf n sz) {i : Nat} (hi : i ≤ n) : 0 < pr sz i := pr_pos (fun i hi => (h.2.1 i hi).1) hi
theorem wf.le {n : Nat} {sz : Nat → Nat} (h : wf n sz) {i : Nat} (hi : i ≤ n) : pr sz i ≤ pr sz n := pr_mono (fun i hi => (h.2.1 i hi).1) hi (Nat.le_refl _)
theorem wf.le2 {n : Nat} {sz : Nat → Nat} (h : wf n sz) {i : Nat} (hi : i ≤ n) : pr sz i ≤ 1024 := Nat.le_trans (h.le hi) h.2.2
theorem wf.val {n : Nat} {sz : Nat → Nat} (h : wf n sz) {v : Nat} (hv : v < n) (r : Nat) : val sz r v < sz v := Nat.mod_lt _ (by have := h.2.1 v hv; omega)
theorem sV_i {z y : Int} {T S' : ST} (h : z = y) (e : sH T = sH S') : sV (some (.int (iI y))) S' (some (.int (iI z))) T := ⟨by rw [h], e⟩
theorem sV_t {p : Prop} [Decidable p] {T S' : ST} (h : p) (e : sH T = sH S') : sV (some (.int (iI (bI (decide p))))) S' (some (.int (iI 1))) T := ⟨by rw [decide_eq_true h]; rfl, e⟩
theorem sV_f {p : Prop} [Decidable p] {T S' : ST} (h : ¬ p) (e : sH T = sH S') : sV (some (.int (iI (bI (decide p))))) S' (some (.int (iI 0))) T := ⟨by rw [decide_eq_false h]; rfl, e⟩
section C0
variable {X : List Int32} {S : ST} {n : Nat} {sz : Nat → Nat}
theorem c_has (hv : vC S n sz) {x : Int} (hx : rg x) : sM X 0 11 [.ref 1, .int (iI x)] S (sV (some (.int (iI (bI (decide (0 ≤ x ∧ x < n)))))) S) := by
  obtain ⟨⟨hn, hsz, hT⟩, en, eT, esz, est⟩ := id hv
  have x1 := hx.1
  have x2 := hx.2
  refine sL (pc' := 1) (i := .iload_n 1) rfl rfl ?_
  refine sIf_lt (p := 4) rfl rfl ⟨by omega, by omega⟩ (fun c1 => ?_) (fun c1 => ?_)
  · have c1 := c1
    refine sKi (p := 17) rfl rfl ?_
    refine sEn (i := .ireturn) rfl (rfl) ?_
    exact sV_f (by omega) rfl
  · have c1 := c1
    refine sL (pc' := 5) (i := .iload_n 1) rfl rfl ?_
    refine sL (pc' := 6) (i := .aload_n 0) rfl rfl ?_
    refine sGi (p := 9) rfl rfl (sk_1 _) rfl rfl rfl en ?_
    refine sIc_ge (p := 12) rfl rfl ⟨by omega, by omega⟩ ⟨by omega, by omega⟩ (fun c2 => ?_) (fun c2 => ?_)
    · have c2 := c2
      refine sKi (p := 17) rfl rfl ?_
      refine sEn (i := .ireturn) rfl (rfl) ?_
      exact sV_f (by omega) rfl
    · have c2 := c2
      refine sKi (p := 13) rfl rfl ?_
      refine sL (i := .goto 4) rfl rfl ?_
      refine sEn (i := .ireturn) rfl (rfl) ?_
      exact sV_t (by omega) rfl
theorem c_hasRoomFor (hv : vC S n sz) {x : Int} (hx : 0 ≤ x ∧ x ≤ 6) : sM X 0 13 [.ref 1, .int (iI x)] S (sV (some (.int (iI (bI (decide (n < 10 ∧ (pr sz n : Int) * x ≤ 1024)))))) S) := by
  obtain ⟨⟨hn, hsz, hT⟩, en, eT, esz, est⟩ := id hv
  have x1 := hx.1
  have x2 := hx.2
  have hb : (pr sz n : Int) * x ≤ 1024 * 6 := Int.mul_le_mul (by omega) (by omega) (by omega) (by omega)
  have hb0 : 0 ≤ (pr sz n : Int) * x := Int.mul_nonneg (by omega) (by omega)
  refine sL (pc' := 1) (i := .aload_n 0) rfl rfl ?_
  refine sGi (p := 4) rfl rfl (sk_1 _) rfl rfl rfl en ?_
  refine sKb (p := 6) rfl rfl ?_
  refine sIc_ge (p := 9) rfl rfl ⟨by omega, by omega⟩ ⟨by omega, by omega⟩ (fun c1 => ?_) (fun c1 => ?_)
  · have c1 := c1
    refine sKi (p := 26) rfl rfl ?_
    refine sEn (i := .ireturn) rfl (rfl) ?_
    exact sV_f (by omega) rfl
  · have c1 := c1
    refine sL (pc' := 10) (i := .aload_n 0) rfl rfl ?_
    refine sGi (p := 13) rfl rfl (sk_1 _) rfl rfl rfl eT ?_
    refine sL (pc' := 14) (i := .iload_n 1) rfl rfl ?_
    refine sMu (p := 15) rfl rfl ?_
    refine sKs (p := 18) rfl rfl ?_
    refine sIc_gt (p := 21) rfl rfl ⟨by omega, by omega⟩ ⟨by omega, by omega⟩ (fun c2 => ?_) (fun c2 => ?_)
    · have c2 := c2
      refine sKi (p := 26) rfl rfl ?_
      refine sEn (i := .ireturn) rfl (rfl) ?_
      exact sV_f (by omega) rfl
    · have c2 := c2
      refine sKi (p := 22) rfl rfl ?_
      refine sL (i := .goto 4) rfl rfl ?_
      refine sEn (i := .ireturn) rfl (rfl) ?_
      exact sV_t (by omega) rfl
theorem c_sizeOf (hv : vC S n sz) {x : Int} (hx : rg x) : sM X 0 15 [.ref 1, .int (iI x)] S (sV (some (.int (iI (if 0 ≤ x ∧ x < n then (sz x.toNat : Nat) else 0)))) S) := by
  obtain ⟨⟨hn, hsz, hT⟩, en, eT, esz, est⟩ := id hv
  have x1 := hx.1
  have x2 := hx.2
  refine sL (pc' := 1) (i := .iload_n 1) rfl rfl ?_
  refine sIf_lt (p := 4) rfl rfl ⟨by omega, by omega⟩ (fun c1 => ?_) (fun c1 => ?_)
  · have c1 := c1
    refine sKi (p := 22) rfl rfl ?_
    refine sEn (i := .ireturn) rfl (rfl) ?_
    exact sV_i ((if_neg (by omega)).symm) rfl
  · have c1 := c1
    refine sL (pc' := 5) (i := .iload_n 1) rfl rfl ?_
    refine sL (pc' := 6) (i := .aload_n 0) rfl rfl ?_
    refine sGi (p := 9) rfl rfl (sk_1 _) rfl rfl rfl en ?_
    refine sIc_ge (p := 12) rfl rfl ⟨by omega, by omega⟩ ⟨by omega, by omega⟩ (fun c2 => ?_) (fun c2 => ?_)
    · have c2 := c2
      refine sKi (p := 22) rfl rfl ?_
      refine sEn (i := .ireturn) rfl (rfl) ?_
      exact sV_i ((if_neg (by omega)).symm) rfl
    · have c2 := c2
      refine sL (pc' := 13) (i := .aload_n 0) rfl rfl ?_
      refine sGc (p := 16) rfl rfl (sk_1 _) rfl rfl rfl ?_
      refine sL (pc' := 17) (i := .iload_n 1) rfl rfl ?_
      refine sAi (p := 18) (i := x.toNat) rfl rfl (sk_2 _) (by omega) ⟨by omega, by omega⟩ (esz _ (by omega)) ?_
      refine sL (i := .goto 4) rfl rfl ?_
      refine sEn (i := .ireturn) rfl (rfl) ?_
      exact sV_i ((if_pos (by omega)).symm) rfl
theorem c_strideOf (hv : vC S n sz) {x : Int} (hx : rg x) : sM X 0 16 [.ref 1, .int (iI x)] S (sV (some (.int (iI (if 0 ≤ x ∧ x < n then (pr sz x.toNat : Nat) else 0)))) S) := by
  obtain ⟨⟨hn, hsz, hT⟩, en, eT, esz, est⟩ := id hv
  have x1 := hx.1
  have x2 := hx.2
  refine sL (pc' := 1) (i := .iload_n 1) rfl rfl ?_
  refine sIf_lt (p := 4) rfl rfl ⟨by omega, by omega⟩ (fun c1 => ?_) (fun c1 => ?_)
  · have c1 := c1
    refine sKi (p := 22) rfl rfl ?_
    refine sEn (i := .ireturn) rfl (rfl) ?_
    exact sV_i ((if_neg (by omega)).symm) rfl
  · have c1 := c1
    refine sL (pc' := 5) (i := .iload_n 1) rfl rfl ?_
    refine sL (pc' := 6) (i := .aload_n 0) rfl rfl ?_
    refine sGi (p := 9) rfl rfl (sk_1 _) rfl rfl rfl en ?_
    refine sIc_ge (p := 12) rfl rfl ⟨by omega, by omega⟩ ⟨by omega, by omega⟩ (fun c2 => ?_) (fun c2 => ?_)
    · have c2 := c2
      refine sKi (p := 22) rfl rfl ?_
      refine sEn (i := .ireturn) rfl (rfl) ?_
      exact sV_i ((if_neg (by omega)).symm) rfl
    · have c2 := c2
      refine sL (pc' := 13) (i := .aload_n 0) rfl rfl ?_
      refine sGc (p := 16) rfl rfl (sk_1 _) rfl rfl rfl ?_
      refine sL (pc' := 17) (i := .iload_n 1) rfl rfl ?_
      refine sAi (p := 18) (i := x.toNat) rfl rfl (sk_3 _) (by omega) ⟨by omega, by omega⟩ (est _ (by omega)) ?_
      refine sL (i := .goto 4) rfl rfl ?_
      refine sEn (i := .ireturn) rfl (rfl) ?_
      exact sV_i ((if_pos (by omega)).symm) rfl
theorem c_hasValue (hv : vC S n sz) {x y : Int} (hx : rg x) (hy : rg y) : sM X 1 12 [.ref 1, .int (iI x), .int (iI y)] S (sV (some (.int (iI (bI (decide (0 ≤ x ∧ x < n ∧ 0 ≤ y ∧ y < (sz x.toNat : Nat))))))) S) := by
  obtain ⟨⟨hn, hsz, hT⟩, en, eT, esz, est⟩ := id hv
  have x1 := hx.1
  have x2 := hx.2
  have y1 := hy.1
  have y2 := hy.2
  refine sL (pc' := 1) (i := .aload_n 0) rfl rfl ?_
  refine sL (pc' := 2) (i := .iload_n 1) rfl rfl ?_
  refine sCv (p := 5) (as := [_]) rfl rfl rfl rfl (by decide) (Nat.le_of_ble_eq_true rfl) rfl (Nat.le_of_ble_eq_true rfl) (sk_1 _) rfl (by omega) (c_has hv hx) ?_
  refine sBe (p := 8) rfl rfl (fun c1 => ?_) (fun c1 => ?_)
  · have c1 := c1
    refine sKi (p := 27) rfl rfl ?_
    refine sEn (i := .ireturn) rfl (rfl) ?_
    exact sV_f (by have := of_decide_eq_false c1; omega) rfl
  · have c1 := c1
    have c1 := of_decide_eq_true c1
    have hs := hsz x.toNat (by omega)
    refine sL (pc' := 9) (i := .iload_n 2) rfl rfl ?_
    refine sIf_lt (p := 12) rfl rfl ⟨by omega, by omega⟩ (fun c2 => ?_) (fun c2 => ?_)
    · have c2 := c2
      refine sKi (p := 27) rfl rfl ?_
      refine sEn (i := .ireturn) rfl (rfl) ?_
      exact sV_f (by omega) rfl
    · have c2 := c2
      refine sL (pc' := 13) (i := .iload_n 2) rfl rfl ?_
      refine sL (pc' := 14) (i := .aload_n 0) rfl rfl ?_
      refine sGc (p := 17) rfl rfl (sk_1 _) rfl rfl rfl ?_
      refine sL (pc' := 18) (i := .iload_n 1) rfl rfl ?_
      refine sAi (p := 19) (i := x.toNat) rfl rfl (sk_2 _) (by omega) ⟨by omega, by omega⟩ (esz _ (by omega)) ?_
      refine sIc_ge (p := 22) rfl rfl ⟨by omega, by omega⟩ ⟨by omega, by omega⟩ (fun c3 => ?_) (fun c3 => ?_)
      · have c3 := c3
        refine sKi (p := 27) rfl rfl ?_
        refine sEn (i := .ireturn) rfl (rfl) ?_
        exact sV_f (by omega) rfl
      · have c3 := c3
        refine sKi (p := 23) rfl rfl ?_
        refine sL (i := .goto 4) rfl rfl ?_
        refine sEn (i := .ireturn) rfl (rfl) ?_
        exact sV_t (by omega) rfl
theorem c_valueIn (hv : vC S n sz) {r : Nat} {x : Int} (hr : r < 2147483648) (hx : rg x) : sM X 0 18 [.ref 1, .int (iI r), .int (iI x)] S (sV (some (.int (iI (if 0 ≤ x ∧ x < n then (val sz r x.toNat : Nat) else 0)))) S) := by
  obtain ⟨⟨hn, hsz, hT⟩, en, eT, esz, est⟩ := id hv
  have x1 := hx.1
  have x2 := hx.2
  refine sL (pc' := 1) (i := .iload_n 2) rfl rfl ?_
  refine sIf_lt (p := 4) rfl rfl ⟨by omega, by omega⟩ (fun c1 => ?_) (fun c1 => ?_)
  · have c1 := c1
    refine sKi (p := 31) rfl rfl ?_
    refine sEn (i := .ireturn) rfl (rfl) ?_
    exact sV_i ((if_neg (by omega)).symm) rfl
  · have c1 := c1
    refine sL (pc' := 5) (i := .iload_n 2) rfl rfl ?_
    refine sL (pc' := 6) (i := .aload_n 0) rfl rfl ?_
    refine sGi (p := 9) rfl rfl (sk_1 _) rfl rfl rfl en ?_
    refine sIc_ge (p := 12) rfl rfl ⟨by omega, by omega⟩ ⟨by omega, by omega⟩ (fun c2 => ?_) (fun c2 => ?_)
    · have c2 := c2
      refine sKi (p := 31) rfl rfl ?_
      refine sEn (i := .ireturn) rfl (rfl) ?_
      exact sV_i ((if_neg (by omega)).symm) rfl
    · have c2 := c2
      have hs := hsz x.toNat (by omega)
      have hp := hv.1.pos (i := x.toNat) (by omega)
      have hp2 := hv.1.le2 (i := x.toNat) (by omega)
      have hdp : 0 ≤ (r : Int) / (pr sz x.toNat : Nat) := Int.ediv_nonneg (by omega) (by omega)
      have hdq : (r : Int) / (pr sz x.toNat : Nat) ≤ r := Int.ediv_le_self _ (by omega)
      refine sL (pc' := 13) (i := .iload_n 1) rfl rfl ?_
      refine sL (pc' := 14) (i := .aload_n 0) rfl rfl ?_
      refine sGc (p := 17) rfl rfl (sk_1 _) rfl rfl rfl ?_
      refine sL (pc' := 18) (i := .iload_n 2) rfl rfl ?_
      refine sAi (p := 19) (i := x.toNat) rfl rfl (sk_3 _) (by omega) ⟨by omega, by omega⟩ (est _ (by omega)) ?_
      refine sDv (p := 20) rfl rfl ⟨by omega, by omega⟩ ⟨by omega, by omega⟩ ?_
      refine sL (pc' := 21) (i := .aload_n 0) rfl rfl ?_
      refine sGc (p := 24) rfl rfl (sk_1 _) rfl rfl rfl ?_
      refine sL (pc' := 25) (i := .iload_n 2) rfl rfl ?_
      refine sAi (p := 26) (i := x.toNat) rfl rfl (sk_2 _) (by omega) ⟨by omega, by omega⟩ (esz _ (by omega)) ?_
      refine sRm (p := 27) rfl rfl ⟨by omega, by omega⟩ ⟨by omega, by omega⟩ ?_
      refine sL (i := .goto 4) rfl rfl ?_
      refine sEn (i := .ireturn) rfl (rfl) ?_
      exact sV_i ((if_pos (by omega)).symm) rfl
end C0
