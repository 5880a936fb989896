/-! ===== how long a text can be ===== -/
theorem cnt_sumW {m : Nat} (lv w : Nat → Nat) : ∀ {c : Nat}, (∀ j, j < c → lv j < m) → sumN (fun j => w (lv j)) c = sumN (fun p => cntB (fun j => decide (lv j = p)) c * w p) m
  | 0, _ => by
    have : ∀ m, sumN (fun p => cntB (fun j => decide (lv j = p)) 0 * w p) m = 0 := by
      intro m
      induction m with
      | zero => rfl
      | succ m ih =>
        show sumN _ m + 0 * w m = 0
        rw [ih, Nat.zero_mul]
    exact (this m).symm
  | c + 1, h => by
    have ih := cnt_sumW lv w (c := c) (fun j hj => h j (by omega))
    have hl := h c (by omega)
    have : ∀ m, sumN (fun p => cntB (fun j => decide (lv j = p)) (c + 1) * w p) m = sumN (fun p => cntB (fun j => decide (lv j = p)) c * w p) m + (if lv c < m then w (lv c) else 0) := by
      intro m
      induction m with
      | zero => rfl
      | succ m ihm =>
        show sumN _ m + (cntB (fun j => decide (lv j = m)) c + (if decide (lv c = m) then 1 else 0)) * w m = sumN _ m + cntB (fun j => decide (lv j = m)) c * w m + (if lv c < m + 1 then w (lv c) else 0)
        rw [ihm, Nat.add_mul]
        by_cases c1 : lv c < m
        · rw [if_pos c1, decide_eq_false (show ¬ lv c = m by omega), if_pos (show lv c < m + 1 by omega), if_neg (by decide), Nat.zero_mul]
          omega
        · rw [if_neg c1]
          by_cases c2 : lv c = m
          · rw [decide_eq_true c2, if_pos (show lv c < m + 1 by omega), if_pos rfl, Nat.one_mul, c2]
            omega
          · rw [decide_eq_false c2, if_neg (show ¬ lv c < m + 1 by omega), if_neg (by decide), Nat.zero_mul]
            omega
    rw [this m, if_pos hl, ← ih]
    rfl
theorem sumN_mono {f : Nat → Nat} {i : Nat} : ∀ {N : Nat}, i ≤ N → sumN f i ≤ sumN f N
  | 0, h => by
    have hi : i = 0 := by omega
    rw [hi]
    exact Nat.le_refl _
  | N + 1, h => by
    by_cases q : i = N + 1
    · rw [q]
      exact Nat.le_refl _
    · have := sumN_mono (f := f) (i := i) (N := N) (by omega)
      show sumN f i ≤ sumN f N + f N
      omega
theorem sumN_lin {f : Nat → Nat} : ∀ {N : Nat}, sumN (fun j => 9 + 4 * f j) N = 9 * N + 4 * sumN f N
  | 0 => rfl
  | N + 1 => by
    show sumN (fun j => 9 + 4 * f j) N + (9 + 4 * f N) = 9 * (N + 1) + 4 * (sumN f N + f N)
    rw [sumN_lin]
    omega
section PL
variable {n c : Nat} {sz ord pl : Nat → Nat} {F L : Nat → Nat → Bool} {g : Nat → Bool}
theorem QQ_s {p : Nat} (hp : p < n) : QQ n sz ord (n - p) = QQ n sz ord (n - (p + 1)) * sz (ord p) := by
  rw [show n - p = (n - (p + 1)) + 1 from by omega]
  show QQ n sz ord (n - (p + 1)) * sz (ord (n - 1 - (n - (p + 1)))) = _
  rw [show n - 1 - (n - (p + 1)) = p from by omega]
/-- how many edges there can be -/
theorem lv_sumE (hw : wf n sz) (ho : prm n ord pl) {t : Nat → Nat} (h1 : ∀ p, p < n → t p ≤ 1 * PP sz ord p) (h2 : ∀ p, p < n → t p ≤ 2 ^ QQ n sz ord (n - p)) : ∀ p, p < n → sumN (fun p => t p * sz (ord p)) (p + 1) ≤ 1040 ∧ (12 ≤ QQ n sz ord (n - p) → sumN (fun p => t p * sz (ord p)) (p + 1) ≤ 2 * PP sz ord (p + 1)) ∧ (6 ≤ QQ n sz ord (n - p) → QQ n sz ord (n - p) ≤ 11 → sumN (fun p => t p * sz (ord p)) (p + 1) ≤ 852) ∧ (3 ≤ QQ n sz ord (n - p) → QQ n sz ord (n - p) ≤ 5 → sumN (fun p => t p * sz (ord p)) (p + 1) ≤ 1012)
  | 0, hp => by
    have e : sumN (fun p => t p * sz (ord p)) (0 + 1) = t 0 * sz (ord 0) := Nat.zero_add _
    have a1 := h1 0 hp
    have a2 : PP sz ord 0 = 1 := rfl
    have a3 : PP sz ord (0 + 1) = 1 * sz (ord 0) := rfl
    have a4 := hw.2.1 (ord 0) (ho.1 0 hp).1
    rw [a2] at a1
    have a5 : t 0 * sz (ord 0) ≤ 1 * sz (ord 0) := Nat.mul_le_mul_right _ (by omega)
    rw [e, a3]
    omega
  | p + 1, hp => by
    obtain ⟨b0, b1, b2, b3⟩ := lv_sumE hw ho h1 h2 p (by omega)
    have e : sumN (fun p => t p * sz (ord p)) (p + 1 + 1) = sumN (fun p => t p * sz (ord p)) (p + 1) + t (p + 1) * sz (ord (p + 1)) := rfl
    have a1 := h1 (p + 1) hp
    have a2 := h2 (p + 1) hp
    have a3 : PP sz ord (p + 1 + 1) = PP sz ord (p + 1) * sz (ord (p + 1)) := rfl
    have a4 := QQ_2 hw ho (p := p) (by omega)
    have a5 := PQ_le hw ho (p := p + 1) (by omega)
    have a6 := QQ_s (sz := sz) (ord := ord) (p := p + 1) hp
    have a7 := QQ_pos hw ho (k := n - (p + 1 + 1)) (by omega)
    have a8 := PQ_le hw ho (p := p + 1 + 1) (by omega)
    have a9 := hw.2.1 (ord (p + 1)) (ho.1 (p + 1) hp).1
    rw [e]
    generalize hf : sumN (fun p => t p * sz (ord p)) (p + 1) = f at *
    generalize hs : sz (ord (p + 1)) = s at *
    generalize hT : t (p + 1) = T at *
    generalize hr : QQ n sz ord (n - (p + 1 + 1)) = r at *
    generalize hq : QQ n sz ord (n - (p + 1)) = q at *
    generalize hQ : QQ n sz ord (n - p) = Q at *
    generalize hP : PP sz ord (p + 1) = P at *
    generalize hPn : PP sz ord (p + 1 + 1) = P' at *
    have t1 : T * s ≤ P' := by
      rw [a3]
      exact Nat.mul_le_mul_right _ (by omega)
    have t2 : 2 * P ≤ P' := by
      rw [a3, Nat.mul_comm]
      exact Nat.mul_le_mul_left _ a9.1
    have s1 : s ≤ q := by
      rw [a6]
      exact Nat.le_mul_of_pos_left _ a7
    have s2 : q ≤ r * 6 := by
      rw [a6]
      exact Nat.mul_le_mul_left _ a9.2
    have r2 : 2 ≤ r → P' ≤ 512 := fun z => by
      have : P' * 2 ≤ P' * r := Nat.mul_le_mul_left _ z
      omega
    have pq : ∀ k, k ≤ q → P * k ≤ 1024 := fun k z => Nat.le_trans (Nat.mul_le_mul_left _ z) a5
    by_cases k12 : 12 ≤ q
    · have := b1 (by omega)
      have := r2 (by omega)
      omega
    · by_cases k6 : 6 ≤ q
      · have := b1 (by omega)
        have := pq 6 k6
        have h3 : T * s ≤ 512 := by
          by_cases hr1 : 2 ≤ r
          · have := r2 hr1
            omega
          · have hq6 : q = 6 := by omega
            rw [hq6] at a2
            have : T * s ≤ 64 * 6 := Nat.mul_le_mul a2 a9.2
            omega
        omega
      · by_cases k3 : 3 ≤ q
        · have w5 : 2 ^ q ≤ 32 := Nat.pow_le_pow_right (n := 2) (by omega) (show q ≤ 5 by omega)
          have h3 : T * s ≤ 32 * 5 := Nat.mul_le_mul (Nat.le_trans a2 w5) (by omega)
          have := pq 3 k3
          by_cases z : 12 ≤ Q
          · have := b1 z
            omega
          · have := b2 (by omega) (by omega)
            omega
        · have w2 : 2 ^ q ≤ 4 := Nat.pow_le_pow_right (n := 2) (by omega) (show q ≤ 2 by omega)
          have h3 : T * s ≤ 4 * 2 := Nat.mul_le_mul (Nat.le_trans a2 w2) (by omega)
          have := pq 2 (by omega)
          have h4 : f ≤ 1024 := by
            by_cases z : 12 ≤ Q
            · have := b1 z
              omega
            · by_cases z6 : 6 ≤ Q
              · have := b2 z6 (by omega)
                omega
              · have := b3 (by omega) (by omega)
                omega
          omega
theorem LS1_E (hw : wf n sz) (ho : prm n ord pl) (h : LSt n sz ord 1 F c L) : sumN (fun j => sz (ord (fpl n sz ord (L j)))) c ≤ 1040 := by
  have hs := cnt_sumW (m := n) (fun j => fpl n sz ord (L j)) (fun p => sz (ord p)) (c := c) (fun j hj => fpl_lt hw ho (h.1 j hj).1 (h.1 j hj).2.1)
  by_cases hn : n = 0
  · subst hn
    refine Nat.le_trans (Nat.le_of_eq hs) ?_
    exact Nat.zero_le _
  · obtain ⟨k, rfl⟩ : ∃ k, n = k + 1 := ⟨n - 1, by omega⟩
    have := (lv_sumE hw ho (t := fun p => cntB (fun j => decide (fpl (k + 1) sz ord (L j) = p)) c) (fun p hp => LS_a hw ho h hp) (fun p hp => LS_b hw ho h hp) k (by omega)).1
    refine Nat.le_trans (Nat.le_of_eq hs) ?_
    exact this
/-- a text fits into the page -/
theorem NF_W (hw : wf n sz) (ho : prm n ord pl) (ht : tbT (pr sz n) g) : ∀ i, i ≤ NF n sz ord g → sumN (fun j => 9 + 4 * sz (prV n sz ord g j)) i ≤ 8192 := by
  intro i hi
  have h := (NF_ok (F := fun _ => g) (m := 1) (f0 := 0) hw ho (by decide) (by decide) ht).2.2
  have h1 := (NF_380 hw ho ht).1
  have h2 : sumN (fun j => sz (prV n sz ord g j)) (NF n sz ord g) ≤ 1040 := LS1_E hw ho h
  have h3 := sumN_mono (f := fun j => 9 + 4 * sz (prV n sz ord g j)) hi
  have h4 : sumN (fun j => 9 + 4 * sz (prV n sz ord g j)) (NF n sz ord g) = 9 * NF n sz ord g + 4 * sumN (fun j => sz (prV n sz ord g j)) (NF n sz ord g) := sumN_lin
  omega
end PL
