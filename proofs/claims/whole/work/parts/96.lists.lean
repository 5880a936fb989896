/-! ===== lists of tables: bounds, growing ===== -/
/-- c tables, all different, none a leaf, each from one of m functions -/
def LSt (n : Nat) (sz ord : Nat → Nat) (m : Nat) (F : Nat → Nat → Bool) (c : Nat) (L : Nat → Nat → Bool) : Prop := (∀ j, j < c → tbT (pr sz n) (L j) ∧ lfv (pr sz n) (L j) = -1 ∧ isP n sz ord m F (L j)) ∧ (∀ i j, i < j → j < c → eqW (L i) (L j) = false)
section LB
variable {n : Nat} {sz ord pl : Nat → Nat} {m : Nat} {F : Nat → Nat → Bool} {c : Nat} {L : Nat → Nat → Bool}
theorem LS_inj (h : LSt n sz ord m F c L) {i j : Nat} (hi : i < c) (hj : j < c) (e : L i = L j) : i = j := by
  by_cases c1 : i < j
  · have := h.2 i j c1 hj
    rw [e, eqW_refl] at this
    cases this
  · by_cases c2 : j < i
    · have := h.2 j i c2 hi
      rw [e, eqW_refl] at this
      cases this
    · omega
theorem LS_a (hw : wf n sz) (ho : prm n ord pl) (h : LSt n sz ord m F c L) {p : Nat} (hp : p < n) : cntB (fun j => decide (fpl n sz ord (L j) = p)) c ≤ m * PP sz ord p := pigeonC (fun j x => ∃ f r, f < m ∧ L j = pcf n sz ord (F f) p r ∧ x = f * PP sz ord p + prk sz ord r p) (fun j hj hP => by
    obtain ⟨f, hf, r, hr, e⟩ := (h.1 j hj).2.2
    rw [of_decide_eq_true hP] at e
    exact ⟨_, dig_lt hf (prk_lt hw ho r (by omega)), f, r, hf, e, rfl⟩) (fun i j x hi hj _ _ ⟨f, r, hf, e, ex⟩ ⟨f2, r2, hf2, e2, ex2⟩ => by
    have := dig_inj (prk_lt hw ho r (by omega)) (prk_lt hw ho r2 (by omega)) (ex.symm.trans ex2)
    obtain ⟨rfl, h2⟩ := this
    exact LS_inj h hi hj (by rw [e, e2, pcf_c hw ho (by omega) (prk_inj hw ho (by omega) h2)]))
theorem bw_inj {f g : Nat → Bool} {k : Nat} (e : bw f k = bw g k) {i : Nat} (hi : i < k) : f i = g i := by rw [← bw_bit f k i hi, e, bw_bit g k i hi]
theorem LS_b (hw : wf n sz) (ho : prm n ord pl) (h : LSt n sz ord m F c L) {p : Nat} (hp : p < n) : cntB (fun j => decide (fpl n sz ord (L j) = p)) c ≤ 2 ^ QQ n sz ord (n - p) := pigeonC (fun j x => x = bw (fun y => L j (urn n sz ord (n - p) y)) (QQ n sz ord (n - p))) (fun j hj hP => ⟨_, bw_lt _ _, rfl⟩) (fun i j x hi hj hPi hPj e1 e2 => by
    have h1 := of_decide_eq_true hPi
    have h2 := of_decide_eq_true hPj
    refine LS_inj h hi hj (tb_urn hw ho (p := p) (by omega) (h.1 i hi).1 (h.1 j hj).1 (fun q hq => fpl_no (by omega)) (fun q hq => fpl_no (by omega)) (fun x hx => ?_))
    exact bw_inj (e1.symm.trans e2) hx)
theorem PP_2 (hw : wf n sz) (ho : prm n ord pl) {p : Nat} (hp : p < n) : 2 * PP sz ord p ≤ PP sz ord (p + 1) := by
  have := hw.2.1 (ord p) (ho.1 p hp).1
  show 2 * PP sz ord p ≤ PP sz ord p * sz (ord p)
  rw [Nat.mul_comm]
  exact Nat.mul_le_mul_left _ this.1
theorem QQ_2 (hw : wf n sz) (ho : prm n ord pl) {p : Nat} (hp : p < n) : 2 * QQ n sz ord (n - (p + 1)) ≤ QQ n sz ord (n - p) := by
  have := hw.2.1 (ord p) (ho.1 p hp).1
  rw [show n - p = (n - (p + 1)) + 1 from by omega]
  show _ ≤ QQ n sz ord (n - (p + 1)) * sz (ord (n - 1 - (n - (p + 1))))
  rw [show n - 1 - (n - (p + 1)) = p from by omega, Nat.mul_comm]
  exact Nat.mul_le_mul_left _ this.1
theorem QQ_pos (hw : wf n sz) (ho : prm n ord pl) : ∀ {k : Nat}, k ≤ n → 1 ≤ QQ n sz ord k
  | 0, _ => Nat.le_refl _
  | k + 1, h => by
    have := hw.2.1 (ord (n - 1 - k)) (ho.1 _ (by omega)).1
    exact Nat.mul_pos (QQ_pos hw ho (by omega)) (by omega)
theorem PQ_le (hw : wf n sz) (ho : prm n ord pl) {p : Nat} (hp : p ≤ n) : PP sz ord p * QQ n sz ord (n - p) ≤ 1024 := by
  rw [PQ hp]
  exact Nat.le_trans (QQ_le hw ho) hw.2.2
/-- the sum over levels -/
theorem lv_sum (hw : wf n sz) (ho : prm n ord pl) {t : Nat → Nat} (h1 : ∀ p, p < n → t p ≤ 40 * PP sz ord p) (h2 : ∀ p, p < n → t p ≤ 2 ^ QQ n sz ord (n - p)) : ∀ p, p < n → sumN t (p + 1) ≤ 8910 ∧ (12 ≤ QQ n sz ord (n - p) → sumN t (p + 1) ≤ 80 * PP sz ord p) ∧ (6 ≤ QQ n sz ord (n - p) → sumN t (p + 1) ≤ 8874) ∧ (3 ≤ QQ n sz ord (n - p) → sumN t (p + 1) ≤ 8906)
  | 0, hp => by
    have e : sumN t (0 + 1) = t 0 := Nat.zero_add _
    have a1 := h1 0 hp
    have a2 : PP sz ord 0 = 1 := rfl
    rw [e, a2]
    rw [a2] at a1
    omega
  | p + 1, hp => by
    obtain ⟨b0, b1, b2, b3⟩ := lv_sum hw ho h1 h2 p (by omega)
    have e : sumN t (p + 1 + 1) = sumN t (p + 1) + t (p + 1) := rfl
    have a1 := h1 (p + 1) hp
    have a2 := h2 (p + 1) hp
    have a3 := PP_2 hw ho (p := p) (by omega)
    have a4 := QQ_2 hw ho (p := p) (by omega)
    have a5 := PQ_le hw ho (p := p) (by omega)
    have a6 := QQ_2 hw ho (p := p + 1) hp
    have a7 := QQ_pos hw ho (k := n - (p + 1 + 1)) (by omega)
    rw [e]
    generalize hq : QQ n sz ord (n - (p + 1)) = q at *
    generalize hQ : QQ n sz ord (n - p) = Q at *
    generalize hP : PP sz ord p = P at *
    generalize hPn : PP sz ord (p + 1) = P' at *
    have c12 : 12 ≤ Q → P ≤ 85 := fun z => by
      have : P * 12 ≤ P * Q := Nat.mul_le_mul_left _ z
      omega
    have p11 : q ≤ 11 → 2 ^ q ≤ 2048 := fun z => Nat.pow_le_pow_right (n := 2) (by omega) z
    have p5 : q ≤ 5 → 2 ^ q ≤ 32 := fun z => Nat.pow_le_pow_right (n := 2) (by omega) z
    have p2 : q ≤ 2 → 2 ^ q ≤ 4 := fun z => Nat.pow_le_pow_right (n := 2) (by omega) z
    generalize 2 ^ q = W at *
    by_cases k12 : 12 ≤ q
    · have := c12 (by omega)
      have := b1 (by omega)
      have a8 := PQ_le hw ho (p := p + 1) (by omega)
      rw [hPn, hq] at a8
      have : P' * 12 ≤ P' * q := Nat.mul_le_mul_left _ k12
      omega
    · have w11 := p11 (by omega)
      by_cases k6 : 6 ≤ q
      · have := c12 (by omega)
        have := b1 (by omega)
        omega
      · have w5 := p5 (by omega)
        by_cases k3 : 3 ≤ q
        · have := b2 (by omega)
          omega
        · have w2 := p2 (by omega)
          have := b3 (by omega)
          omega
theorem LS_le (hw : wf n sz) (ho : prm n ord pl) (hm : m ≤ 40) (h : LSt n sz ord m F c L) : c ≤ 8910 := by
  have hs := cnt_sum (m := n) (fun j => fpl n sz ord (L j)) (c := c) (fun j hj => fpl_lt hw ho (h.1 j hj).1 (h.1 j hj).2.1)
  by_cases hn : n = 0
  · subst hn
    have : sumN (fun p => cntB (fun j => decide (fpl 0 sz ord (L j) = p)) c) 0 = 0 := rfl
    omega
  · obtain ⟨k, rfl⟩ : ∃ k, n = k + 1 := ⟨n - 1, by omega⟩
    have := (lv_sum hw ho (t := fun p => cntB (fun j => decide (fpl (k + 1) sz ord (L j) = p)) c) (fun p hp => Nat.le_trans (LS_a hw ho h hp) (Nat.mul_le_mul_right _ hm)) (fun p hp => LS_b hw ho h hp) k (by omega)).1
    omega
/-- adding a table -/
theorem addN_LS {g : Nat → Bool} (hw : wf n sz) (h : LSt n sz ord m F c L) (ht : tbT (pr sz n) g) (hP : lfv (pr sz n) g = -1 → isP n sz ord m F g) : LSt n sz ord m F (addN (pr sz n) c L g).1 (addN (pr sz n) c L g).2 := by
  unfold addN
  by_cases c1 : lfv (pr sz n) g ≠ -1
  · rw [if_pos c1]
    exact h
  · rw [if_neg c1]
    have c1 : lfv (pr sz n) g = -1 := Classical.not_not.mp c1
    by_cases c2 : fbF (fun i => eqW (L i) g) c 0 < c
    · rw [if_pos c2]
      exact h
    · rw [if_neg c2]
      have hk := fbF_ok (fun i => eqW (L i) g) c 0
      refine ⟨fun j hj => ?_, fun i j hij hj => ?_⟩
      · dsimp only
        by_cases cj : j = c
        · rw [if_pos cj]
          exact ⟨ht, c1, hP c1⟩
        · rw [if_neg cj]
          exact h.1 j (by have : j < c + 1 := hj; omega)
      · dsimp only
        have hj : j < c + 1 := hj
        rw [if_neg (show ¬ i = c by omega)]
        by_cases cj : j = c
        · rw [if_pos cj]
          exact hk.2.1 i (by omega) (by omega)
        · rw [if_neg cj]
          exact h.2 i j hij (by omega)
/-- what is there stays -/
def xtn (c : Nat) (L : Nat → Nat → Bool) (c' : Nat) (L' : Nat → Nat → Bool) : Prop := c ≤ c' ∧ ∀ j, j < c → L' j = L j
theorem ext_refl (c : Nat) (L : Nat → Nat → Bool) : xtn c L c L := ⟨Nat.le_refl _, fun _ _ => rfl⟩
theorem ext_trans {c1 c2 c3 : Nat} {L1 L2 L3 : Nat → Nat → Bool} (h : xtn c1 L1 c2 L2) (h2 : xtn c2 L2 c3 L3) : xtn c1 L1 c3 L3 := ⟨Nat.le_trans h.1 h2.1, fun j hj => (h2.2 j (by have := h.1; omega)).trans (h.2 j hj)⟩
theorem addN_ext (T : Nat) (g : Nat → Bool) : xtn c L (addN T c L g).1 (addN T c L g).2 := by
  unfold addN
  by_cases c1 : lfv T g ≠ -1
  · rw [if_pos c1]
    exact ext_refl _ _
  · rw [if_neg c1]
    by_cases c2 : fbF (fun i => eqW (L i) g) c 0 < c
    · rw [if_pos c2]
      exact ext_refl _ _
    · rw [if_neg c2]
      exact ⟨by show c ≤ c + 1; omega, fun j hj => if_neg (by omega)⟩
/-- its number in every longer list -/
theorem addN_code {T : Nat} {g : Nat → Bool} {c' : Nat} {L' : Nat → Nat → Bool} (he : xtn (addN T c L g).1 (addN T c L g).2 c' L') : cdN T c' L' g = cdN T c L g := by
  unfold cdN
  by_cases c1 : lfv T g ≠ -1
  · rw [if_pos c1, if_pos c1]
  · rw [if_neg c1, if_neg c1]
    unfold addN at he
    rw [if_neg c1] at he
    have hk := fbF_ok (fun i => eqW (L i) g) c 0
    by_cases c2 : fbF (fun i => eqW (L i) g) c 0 < c
    · rw [if_pos c2] at he
      have he1 : c ≤ c' := he.1
      have : fbF (fun i => eqW (L' i) g) c' 0 = fbF (fun i => eqW (L i) g) c 0 := fbF_eq (by omega) (by
        show eqW (L' _) g = true
        rw [he.2 _ c2]
        exact hk.2.2 (by omega)) (fun j hj => by
        show eqW (L' j) g = false
        rw [he.2 j (show j < c by omega)]
        exact hk.2.1 j (by omega) hj)
      rw [this]
    · rw [if_neg c2] at he
      have he1 : c + 1 ≤ c' := he.1
      have e0 : fbF (fun i => eqW (L i) g) c 0 = c := by omega
      have : fbF (fun i => eqW (L' i) g) c' 0 = c := fbF_eq (by omega) (by
        show eqW (L' c) g = true
        rw [he.2 c (by show c < c + 1; omega)]
        show eqW (if c = c then g else L c) g = true
        rw [if_pos rfl]
        exact eqW_refl g) (fun j hj => by
        show eqW (L' j) g = false
        rw [he.2 j (by show j < c + 1; omega)]
        show eqW (if j = c then g else L j) g = false
        rw [if_neg (by omega)]
        exact hk.2.1 j (by omega) (by omega))
      rw [this, e0]
/-- the kids of a table are added -/
def addK (n : Nat) (sz : Nat → Nat) (g : Nat → Bool) (v c : Nat) (L : Nat → Nat → Bool) : Nat → Nat × (Nat → Nat → Bool)
  | 0 => (c, L)
  | k + 1 => addN (pr sz n) (addK n sz g v c L k).1 (addK n sz g v c L k).2 (cof n sz g v k)
theorem addK_ext (g : Nat → Bool) (v : Nat) : ∀ {i k : Nat}, i ≤ k → xtn (addK n sz g v c L i).1 (addK n sz g v c L i).2 (addK n sz g v c L k).1 (addK n sz g v c L k).2
  | i, 0, h => by
    obtain rfl : i = 0 := by omega
    exact ext_refl _ _
  | i, k + 1, h => by
    by_cases c1 : i = k + 1
    · subst c1
      exact ext_refl _ _
    · exact ext_trans (addK_ext g v (i := i) (k := k) (by omega)) (addN_ext _ _)
theorem addK_LS (hw : wf n sz) (ho : prm n ord pl) {g : Nat → Bool} (hg : isP n sz ord m F g) (hp : fpl n sz ord g < n) (h : LSt n sz ord m F c L) : ∀ {k : Nat}, k ≤ sz (ord (fpl n sz ord g)) → LSt n sz ord m F (addK n sz g (ord (fpl n sz ord g)) c L k).1 (addK n sz g (ord (fpl n sz ord g)) c L k).2
  | 0, _ => h
  | k + 1, hk => addN_LS hw (addK_LS hw ho hg hp h (by omega)) (cof_tb _ _ _ _ _) (fun _ => isP_kid hw ho hg hp (by omega))
/-- the whole growth: i tables have their kids -/
def bfs (n : Nat) (sz ord : Nat → Nat) (c : Nat) (L : Nat → Nat → Bool) : Nat → Nat × (Nat → Nat → Bool)
  | 0 => (c, L)
  | i + 1 => addK n sz ((bfs n sz ord c L i).2 i) (ord (fpl n sz ord ((bfs n sz ord c L i).2 i))) (bfs n sz ord c L i).1 (bfs n sz ord c L i).2 (sz (ord (fpl n sz ord ((bfs n sz ord c L i).2 i))))
theorem bfs_LS (hw : wf n sz) (ho : prm n ord pl) (h : LSt n sz ord m F c L) : ∀ {i : Nat}, (∀ j, j < i → j < (bfs n sz ord c L j).1) → LSt n sz ord m F (bfs n sz ord c L i).1 (bfs n sz ord c L i).2
  | 0, _ => h
  | i + 1, hi => by
    have ih := bfs_LS hw ho h (i := i) (fun j hj => hi j (by omega))
    have hg := ih.1 i (hi i (by omega))
    exact addK_LS hw ho hg.2.2 (fpl_lt hw ho hg.1 hg.2.1) ih (Nat.le_refl _)
theorem bfs_ext : ∀ {i k : Nat}, i ≤ k → xtn (bfs n sz ord c L i).1 (bfs n sz ord c L i).2 (bfs n sz ord c L k).1 (bfs n sz ord c L k).2
  | i, 0, h => by
    obtain rfl : i = 0 := by omega
    exact ext_refl _ _
  | i, k + 1, h => by
    by_cases c1 : i = k + 1
    · subst c1
      exact ext_refl _ _
    · exact ext_trans (bfs_ext (i := i) (k := k) (by omega)) (addK_ext (i := 0) _ _ (Nat.zero_le _))
/-- it comes to an end -/
theorem bfs_end (hw : wf n sz) (ho : prm n ord pl) (hm : m ≤ 40) (h : LSt n sz ord m F c L) : ∃ N, (bfs n sz ord c L N).1 = N ∧ (∀ j, j < N → j < (bfs n sz ord c L j).1) ∧ N ≤ 8910 ∧ LSt n sz ord m F N (bfs n sz ord c L N).2 := by
  have hex : ∃ d, (bfs n sz ord c L d).1 ≤ d := by
    refine Classical.byContradiction fun hn => ?_
    have hall : ∀ d, d < (bfs n sz ord c L d).1 := fun d => Classical.byContradiction fun z => hn ⟨d, by omega⟩
    have h1 := LS_le hw ho hm (bfs_LS hw ho h (i := 8911) (fun j _ => hall j))
    have := hall 8911
    omega
  obtain ⟨d, hd⟩ := hex
  obtain ⟨N, h1, h2, _⟩ := least (P := fun d => (bfs n sz ord c L d).1 ≤ d) hd
  have h3 : ∀ j, j < N → j < (bfs n sz ord c L j).1 := fun j hj => by
    have := h2 j hj
    omega
  have h4 : (bfs n sz ord c L N).1 = N := by
    by_cases c0 : N = 0
    · subst c0
      omega
    · have h5 := h3 (N - 1) (by omega)
      have h6 := (bfs_ext (n := n) (sz := sz) (ord := ord) (c := c) (L := L) (i := N - 1) (k := N) (by omega)).1
      omega
  have h5 := bfs_LS hw ho h h3
  rw [h4] at h5
  exact ⟨N, h4, h3, LS_le hw ho hm h5, h5⟩
end LB
