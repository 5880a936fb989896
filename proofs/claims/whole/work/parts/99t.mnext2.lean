/-! ===== the reference's tokens: next, in one ===== -/
def rc (k : Nat) : Int := if k = 264 then 0 else if k = 258 then 1 else if k = 259 then 2 else if k = 260 then 3 else if k = 261 then 4 else if k = 262 then 5 else if k = 263 then 6 else if k = 256 then 200 else if k = 257 then 201 else (k : Int)
def frJ (S S' : ST) : Prop := S'.1 = S.1 ∧ SR S' = SR S ∧ (∀ c, c ≠ 179 → SI S' c = SI S c) ∧ (∀ j, j ≠ 14 → j ≠ 23 → j ≠ 24 → j ≠ 25 → j ≠ 27 → j ≠ 28 → SI S' 179 j = SI S 179 j) ∧ (∀ c, c ≠ 179 → SL S' c = SL S c) ∧ (∀ j, j ≠ 26 → SL S' 179 j = SL S 179 j)
theorem frJ_refl (S : ST) : frJ S S := ⟨rfl, rfl, fun _ _ => rfl, fun _ _ _ _ _ _ _ => rfl, fun _ _ => rfl, fun _ _ => rfl⟩
theorem frJ_trans {S T V : ST} (h : frJ S T) (k : frJ T V) : frJ S V := ⟨k.1.trans h.1, k.2.1.trans h.2.1, fun c c1 => (k.2.2.1 c c1).trans (h.2.2.1 c c1), fun j j1 j2 j3 j4 j5 j6 => (k.2.2.2.1 j j1 j2 j3 j4 j5 j6).trans (h.2.2.2.1 j j1 j2 j3 j4 j5 j6), fun c c1 => (k.2.2.2.2.1 c c1).trans (h.2.2.2.2.1 c c1), fun j j1 => (k.2.2.2.2.2 j j1).trans (h.2.2.2.2.2 j j1)⟩
theorem frJ_w {S : ST} {k : Nat} {z : Int} (h : k = 14 ∨ k = 23 ∨ k = 24 ∨ k = 25 ∨ k = 27 ∨ k = 28) : frJ S (wI S 179 k z) := ⟨rfl, rfl, fun c c1 => funext fun j => rI_ne c1 j, fun j j1 j2 j3 j4 j5 j6 => rI_nj (by omega), fun _ _ => rfl, fun _ _ => rfl⟩
theorem frJ_l {S : ST} {z : Int64} : frJ S (wL S 179 26 z) := ⟨rfl, rfl, fun _ _ => rfl, fun _ _ _ _ _ _ _ => rfl, fun c c1 => funext fun j => by rw [SL_wL, if_neg (fun q => c1 q.1)], fun j j1 => by rw [SL_wL, if_neg (fun q => j1 q.2)]⟩
theorem frJ_bd {S : ST} {kz k p : Int} : frJ S (bdS S kz k p) := by
  unfold bdS
  split
  · exact frJ_trans (frJ_w (by omega)) (frJ_w (by omega))
  · exact frJ_refl _
theorem frJ_B {S : ST} {a : Nat} : frJ S (nxB S a) := frJ_trans (frJ_w (by omega)) (frJ_w (by omega))
theorem SI_B {S : ST} {a j : Nat} (h : j ≠ 23) (h2 : j ≠ 25) : SI (nxB S a) 179 j = SI S 179 j := (rI_nj h2).trans (rI_nj h)
/-- what next leaves -/
def nxQ (S : ST) (y : Nat → Nat) (s a : Nat) (kz : Int) (S' : ST) : Prop := frJ S S' ∧ SI S' 179 25 = ((a : Nat) : Int) ∧ (tK y s a = 265 → SI S' 179 14 = (if kz = 0 then 1 else kz) ∧ SI S' 179 28 = (if kz = 0 then ((a : Nat) : Int) else SI S 179 28) ∧ ∃ q : Nat, q ≤ s ∧ SI S' 179 23 = ((q : Nat) : Int)) ∧ (tK y s a ≠ 265 → SI S' 179 14 = kz ∧ SI S' 179 28 = SI S 179 28 ∧ SI S' 179 23 = ((tE y s a : Nat) : Int) ∧ SI S' 179 24 = rc (tK y s a) ∧ (tK y s a = 258 → SL S' 179 26 = tC y s a) ∧ (tK y s a = 259 → SI S' 179 27 = cI (tC y s a)))
section MU
variable {X : List Int32} {S : ST} {y : Nat → Nat} {s a p : Nat} {kz : Int}
theorem bd_14 {T : ST} {k p : Int} (h : SI T 179 14 = kz) : SI (bdS T kz k p) 179 14 = if kz = 0 then k else kz := by
  unfold bdS
  by_cases c : kz = 0
  · rw [if_pos c, if_pos c]
    exact (rI_nj (by decide)).trans rI_at
  · rw [if_neg c, if_neg c]
    exact h
theorem bd_28 {T : ST} {k p : Int} : SI (bdS T kz k p) 179 28 = if kz = 0 then p else SI T 179 28 := by
  unfold bdS
  by_cases c : kz = 0
  · rw [if_pos c, if_pos c]
    exact rI_at
  · rw [if_neg c, if_neg c]
theorem rc_y {k : Nat} (h : k < 256 ∨ k = 256 ∨ k = 257) : rc k = if k = 256 then 200 else if k = 257 then 201 else (k : Int) := by
  rcases h with h | h | h
  · unfold rc
    rw [if_neg (by omega), if_neg (by omega), if_neg (by omega), if_neg (by omega), if_neg (by omega), if_neg (by omega), if_neg (by omega), if_neg (by omega), if_neg (by omega)]
  · subst h
    rfl
  · subst h
    rfl
theorem nx_e (hk : SI S 179 14 = kz) (hc : a = s) : nxQ S y s a kz (wI (nxB S a) 179 24 0) := by
  have e1 : tK y s a = 264 := by unfold tK; rw [if_pos (by omega)]
  have e2 : tE y s a = a := by unfold tE; rw [if_pos (by omega)]
  refine ⟨frJ_trans frJ_B (frJ_w (by omega)), (rI_nj (by decide)).trans rI_at, fun z => by omega, fun _ => ⟨(rI_nj (by decide)).trans ((SI_B (by decide) (by decide)).trans hk), (rI_nj (by decide)).trans (SI_B (by decide) (by decide)), ?_, ?_, fun z => by omega, fun z => by omega⟩⟩
  · rw [e2]
    exact (rI_nj (by decide)).trans ((rI_nj (by decide)).trans rI_at)
  · rw [e1]
    exact rI_at
theorem nx_s (hk : SI S 179 14 = kz) (hc : a < s) (hL : isL (y a) = false) (hD : isD (y a) = false) (hya : y a < 256) : nxQ S y s a kz (sgS (nxB S a) y s a kz) := by
  obtain ⟨eK, eE⟩ := tK_y hc hL hD
  have hte := (tE_ok (y := y) (a := a) (s := s) (by omega)).1.2
  have h14 : SI (nxB S a) 179 14 = kz := (SI_B (by decide) (by decide)).trans hk
  unfold sgS
  by_cases c : tK y s a = 265
  · rw [if_pos c]
    refine ⟨frJ_trans frJ_B (frJ_trans frJ_bd (frJ_trans (frJ_w (by omega)) (frJ_w (by omega)))), (rI_nj (by decide)).trans ((rI_nj (by decide)).trans ((bdS_f (by decide)).trans rI_at)), fun _ => ⟨(rI_nj (by decide)).trans ((rI_nj (by decide)).trans (bd_14 h14)), (rI_nj (by decide)).trans ((rI_nj (by decide)).trans (bd_28.trans ?_)), _, hte, rI_at⟩, fun z => absurd c z⟩
    rw [SI_B (by decide) (by decide)]
  · rw [if_neg c]
    have hn : tK y s a ≠ 258 ∧ tK y s a ≠ 259 ∧ (tK y s a < 256 ∨ tK y s a = 256 ∨ tK y s a = 257) ∧ (tK y s a < 256 → tK y s a = y a) := by
      rw [eK] at c ⊢
      by_cases q1 : y a = 61 ∧ bA y s (a + 1) = 62
      · rw [if_pos q1] at c ⊢
        omega
      · rw [if_neg q1] at c ⊢
        by_cases q2 : y a = 60 ∧ bA y s (a + 1) = 61 ∧ bA y s (a + 2) = 62
        · rw [if_pos q2] at c ⊢
          omega
        · rw [if_neg q2] at c ⊢
          by_cases q3 : isY (y a) = true
          · rw [if_pos q3] at c ⊢
            omega
          · rw [if_neg q3] at c
            exact absurd rfl c
    refine ⟨frJ_trans frJ_B (frJ_trans (frJ_w (by omega)) (frJ_w (by omega))), (rI_nj (by decide)).trans ((rI_nj (by decide)).trans rI_at), fun z => absurd z c, fun _ => ⟨(rI_nj (by decide)).trans ((rI_nj (by decide)).trans h14), (rI_nj (by decide)).trans ((rI_nj (by decide)).trans (SI_B (by decide) (by decide))), rI_at, (rI_nj (by decide)).trans (rI_at.trans ?_), fun z => absurd z hn.1, fun z => absurd z hn.2.1⟩⟩
    rw [rc_y hn.2.2.1]
    by_cases q1 : tK y s a = 256
    · rw [if_pos q1, if_pos q1]
    · rw [if_neg q1, if_neg q1]
      by_cases q2 : tK y s a = 257
      · rw [if_pos q2, if_pos q2]
      · rw [if_neg q2, if_neg q2, hn.2.2.2 (by omega)]
theorem wK_w {w : Int64} {L : Nat} (h : L ≤ 6) : (wK L w = 260 ∨ wK L w = 261 ∨ wK L w = 262 ∨ wK L w = 263 ∨ wK L w = 258) ∧ rc (wK L w) = (if w = lI 1953658213 then 3 else if w = lI 439721161573 then 4 else if w = lI 1936682341 then 5 else if w = lI 6384748 then 6 else 1) := by
  unfold wK
  rw [if_neg (by omega)]
  by_cases c1 : w = lI 1953658213
  · rw [if_pos c1, if_pos c1]
    exact ⟨Or.inl rfl, rfl⟩
  · rw [if_neg c1, if_neg c1]
    by_cases c2 : w = lI 439721161573
    · rw [if_pos c2, if_pos c2]
      exact ⟨Or.inr (Or.inl rfl), rfl⟩
    · rw [if_neg c2, if_neg c2]
      by_cases c3 : w = lI 1936682341
      · rw [if_pos c3, if_pos c3]
        exact ⟨Or.inr (Or.inr (Or.inl rfl)), rfl⟩
      · rw [if_neg c3, if_neg c3]
        by_cases c4 : w = lI 6384748
        · rw [if_pos c4, if_pos c4]
          exact ⟨Or.inr (Or.inr (Or.inr (Or.inl rfl))), rfl⟩
        · rw [if_neg c4, if_neg c4]
          exact ⟨Or.inr (Or.inr (Or.inr (Or.inr rfl))), rfl⟩
theorem tK_L (h : a < s) (hL : isL (y a) = true) : tK y s a = wK (rE isW y s a - a) (wv y a (rE isW y s a - a)) ∧ tE y s a = rE isW y s a ∧ tC y s a = wv y a (rE isW y s a - a) := by
  unfold tK tE tC
  rw [if_neg (fun z => z h), if_pos hL, if_neg (fun z => z h), if_pos hL, if_pos hL]
  exact ⟨rfl, rfl, rfl⟩
theorem nx_w {L : Nat} (hk : SI S 179 14 = kz) (hc : a < s) (hL : isL (y a) = true) (hLe : a + L = rE isW y s a) (hL6 : L ≤ 6) : nxQ S y s a kz (wI (wL (wI (nxB S a) 179 23 ((a + L : Nat) : Int)) 179 26 (wv y a L)) 179 24 (if wv y a L = lI 1953658213 then 3 else if wv y a L = lI 439721161573 then 4 else if wv y a L = lI 1936682341 then 5 else if wv y a L = lI 6384748 then 6 else 1)) := by
  obtain ⟨eK, eE, eC⟩ := tK_L hc hL
  rw [show rE isW y s a - a = L from by omega] at eK eC
  rw [← hLe] at eE
  have hw := wK_w (w := wv y a L) hL6
  rw [← eK] at hw
  refine ⟨frJ_trans frJ_B (frJ_trans (frJ_w (by omega)) (frJ_trans frJ_l (frJ_w (by omega)))), (rI_nj (by decide)).trans (show SI (wI (nxB S a) 179 23 ((a + L : Nat) : Int)) 179 25 = _ from (rI_nj (by decide)).trans rI_at), fun z => by omega, fun _ => ⟨(rI_nj (by decide)).trans (show SI (wI (nxB S a) 179 23 ((a + L : Nat) : Int)) 179 14 = _ from (rI_nj (by decide)).trans ((SI_B (by decide) (by decide)).trans hk)), (rI_nj (by decide)).trans (show SI (wI (nxB S a) 179 23 ((a + L : Nat) : Int)) 179 28 = _ from (rI_nj (by decide)).trans (SI_B (by decide) (by decide))), ?_, rI_at.trans hw.2.symm, fun _ => ?_, fun z => by omega⟩⟩
  · rw [eE]
    exact (rI_nj (by decide)).trans (show SI (wI (nxB S a) 179 23 ((a + L : Nat) : Int)) 179 23 = _ from rI_at)
  · rw [eC]
    show SL (wL (wI (nxB S a) 179 23 ((a + L : Nat) : Int)) 179 26 (wv y a L)) 179 26 = _
    rw [SL_wL, if_pos ⟨rfl, rfl⟩]
theorem nx_W (hk : SI S 179 14 = kz) (hc : a < s) (hL : isL (y a) = true) (hL6 : a + 6 < rE isW y s a) : nxQ S y s a kz (bdS (wL (wI (nxB S a) 179 23 ((a + 6 : Nat) : Int)) 179 26 (wv y a 6)) kz 1 ((a : Nat) : Int)) := by
  obtain ⟨eK, eE, eC⟩ := tK_L hc hL
  have h65 : tK y s a = 265 := by
    rw [eK]
    unfold wK
    rw [if_pos (by omega)]
  have hw := rE_ok (p := isW) (y := y) (a := a) (s := s) (by omega)
  refine ⟨frJ_trans frJ_B (frJ_trans (frJ_w (by omega)) (frJ_trans frJ_l frJ_bd)), (bdS_f (by decide)).trans (show SI (wI (nxB S a) 179 23 ((a + 6 : Nat) : Int)) 179 25 = _ from (rI_nj (by decide)).trans rI_at), fun _ => ⟨bd_14 (show SI (wI (nxB S a) 179 23 ((a + 6 : Nat) : Int)) 179 14 = _ from (rI_nj (by decide)).trans ((SI_B (by decide) (by decide)).trans hk)), bd_28.trans ?_, a + 6, by omega, (bdS_f (by decide)).trans (show SI (wI (nxB S a) 179 23 ((a + 6 : Nat) : Int)) 179 23 = _ from rI_at)⟩, fun z => absurd h65 z⟩
  rw [show SI (wL (wI (nxB S a) 179 23 ((a + 6 : Nat) : Int)) 179 26 (wv y a 6)) 179 28 = SI S 179 28 from (show SI (wI (nxB S a) 179 23 ((a + 6 : Nat) : Int)) 179 28 = _ from (rI_nj (by decide)).trans (SI_B (by decide) (by decide)))]
theorem nv_1 {k : Nat} (hd : ∀ j, j < k → isD (y (a + j)) = true) : 0 ≤ nv y a k ∧ nv y a k < ((10 ^ k : Nat) : Int) := by
  induction k with
  | zero => exact ⟨Int.le_refl _, by show (0 : Int) < 1; decide⟩
  | succ k ih =>
    have h1 := ih (fun j hj => hd j (by omega))
    have h2 := of_decide_eq_true (hd k (by omega))
    have e : nv y a (k + 1) = nv y a k * 10 + ((y (a + k) : Nat) : Int) - 48 := rfl
    have e2 : 10 ^ (k + 1) = 10 ^ k * 10 := Nat.pow_succ _ _
    rw [e, e2]
    generalize 10 ^ k = t at *
    omega
theorem tK_D2 (h : a < s) (hD : isD (y a) = true) : tE y s a = rE isD y s a ∧ tC y s a = (iI (nv y a (rE isD y s a - a))).toInt64 := by
  have hL : isL (y a) = false := decide_eq_false (fun z => by have := of_decide_eq_true hD; omega)
  unfold tE tC
  rw [if_neg (fun z => z h), hL, if_neg (fun z : false = true => by cases z), if_pos hD, if_neg (fun z : false = true => by cases z)]
  exact ⟨rfl, rfl⟩
theorem cI_i {z : Int} (h : rg z) : cI (iI z).toInt64 = z := by
  unfold cI
  rw [Int32.toInt32_toInt64, iI_toInt h]
theorem nx_n {L : Nat} (hk : SI S 179 14 = kz) (hc : a < s) (hD : isD (y a) = true) (hLe : a + L = rE isD y s a) (hL3 : L ≤ 3) : nxQ S y s a kz (wI (if a + L < s ∧ isL (y (a + L)) = true then bdS (wI (wI (nxB S a) 179 23 ((a + L : Nat) : Int)) 179 27 (nv y a L)) kz 1 ((a : Nat) : Int) else (wI (wI (nxB S a) 179 23 ((a + L : Nat) : Int)) 179 27 (nv y a L))) 179 24 2) := by
  have hL : isL (y a) = false := decide_eq_false (fun z => by have := of_decide_eq_true hD; omega)
  have eK := tK_D hc hL hD
  obtain ⟨eE, eC⟩ := tK_D2 hc hD
  have hw := rE_ok (p := isD) (y := y) (a := a) (s := s) (by omega)
  rw [show rE isD y s a - a = L from by omega] at eK eC
  rw [← hLe] at eK eE
  have h14 : SI (wI (wI (nxB S a) 179 23 ((a + L : Nat) : Int)) 179 27 (nv y a L)) 179 14 = kz := (rI_nj (by decide)).trans ((rI_nj (by decide)).trans ((SI_B (by decide) (by decide)).trans hk))
  have h28 : SI (wI (wI (nxB S a) 179 23 ((a + L : Nat) : Int)) 179 27 (nv y a L)) 179 28 = SI S 179 28 := (rI_nj (by decide)).trans ((rI_nj (by decide)).trans (SI_B (by decide) (by decide)))
  by_cases c : a + L < s ∧ isL (y (a + L)) = true
  · rw [if_neg (fun z => z.2 c)] at eK
    rw [if_pos c]
    refine ⟨frJ_trans frJ_B (frJ_trans (frJ_w (by omega)) (frJ_trans (frJ_w (by omega)) (frJ_trans frJ_bd (frJ_w (by omega))))), (rI_nj (by decide)).trans ((bdS_f (by decide)).trans ((rI_nj (by decide)).trans ((rI_nj (by decide)).trans rI_at))), fun _ => ⟨(rI_nj (by decide)).trans (bd_14 h14), (rI_nj (by decide)).trans (bd_28.trans (by rw [h28])), a + L, by omega, (rI_nj (by decide)).trans ((bdS_f (by decide)).trans ((rI_nj (by decide)).trans rI_at))⟩, fun z => absurd eK z⟩
  · rw [if_pos ⟨hL3, c⟩] at eK
    rw [if_neg c]
    have hnv := nv_1 (y := y) (a := a) (k := L) (fun j hj => hw.2.1 _ (by omega) (by omega))
    have h10 : 10 ^ L ≤ 1000 := Nat.pow_le_pow_right (by decide) hL3
    refine ⟨frJ_trans frJ_B (frJ_trans (frJ_w (by omega)) (frJ_trans (frJ_w (by omega)) (frJ_w (by omega)))), (rI_nj (by decide)).trans ((rI_nj (by decide)).trans ((rI_nj (by decide)).trans rI_at)), fun z => by omega, fun _ => ⟨(rI_nj (by decide)).trans h14, (rI_nj (by decide)).trans h28, ?_, ?_, fun z => by omega, fun _ => ?_⟩⟩
    · rw [eE]
      exact (rI_nj (by decide)).trans ((rI_nj (by decide)).trans rI_at)
    · rw [eK]
      exact rI_at
    · rw [eC, cI_i ⟨by omega, by omega⟩]
      exact (rI_nj (by decide)).trans rI_at
theorem nx_N (hk : SI S 179 14 = kz) (hc : a < s) (hD : isD (y a) = true) (hL3 : a + 3 < rE isD y s a) : nxQ S y s a kz (bdS (wI (wI (nxB S a) 179 23 ((a + 3 : Nat) : Int)) 179 27 (nv y a 3)) kz 1 ((a : Nat) : Int)) := by
  have hL : isL (y a) = false := decide_eq_false (fun z => by have := of_decide_eq_true hD; omega)
  have eK := tK_D hc hL hD
  rw [if_neg (fun z => by omega)] at eK
  have hw := rE_ok (p := isD) (y := y) (a := a) (s := s) (by omega)
  have h28 : SI (wI (wI (nxB S a) 179 23 ((a + 3 : Nat) : Int)) 179 27 (nv y a 3)) 179 28 = SI S 179 28 := (rI_nj (by decide)).trans ((rI_nj (by decide)).trans (SI_B (by decide) (by decide)))
  exact ⟨frJ_trans frJ_B (frJ_trans (frJ_w (by omega)) (frJ_trans (frJ_w (by omega)) frJ_bd)), (bdS_f (by decide)).trans ((rI_nj (by decide)).trans ((rI_nj (by decide)).trans rI_at)), fun _ => ⟨bd_14 ((rI_nj (by decide)).trans ((rI_nj (by decide)).trans ((SI_B (by decide) (by decide)).trans hk))), bd_28.trans (by rw [h28]), a + 3, by omega, (bdS_f (by decide)).trans ((rI_nj (by decide)).trans rI_at)⟩, fun z => absurd eK z⟩
/-- the reference's next -/
theorem m_next (ht : mt S y s) (hp : SI S 179 23 = ((p : Nat) : Int)) (hpl : p ≤ s) (hk : SI S 179 14 = kz) (hz : 0 ≤ kz ∧ kz ≤ 5) (ha : a = rE isB y s p) : sM X 2 197 [.ref 179] S (fun r S' => r = none ∧ nxQ S y s a kz S') := by
  have hr := rE_ok (p := isB) (y := y) hpl
  rw [← ha] at hr
  by_cases c1 : a = s
  · exact sM_of (m_next_e ht hp hpl hk hz ha c1) ⟨rfl, nx_e hk c1⟩
  · have hc : a < s := by omega
    cases hL : isL (y a) with
    | true =>
      have hw := rE_ok (p := isW) (y := y) (a := a) (s := s) (by omega)
      by_cases c2 : rE isW y s a ≤ a + 6
      · exact sM_of (m_next_w (L := rE isW y s a - a) ht hp hpl hk hz ha hc hL (by omega) (by omega)) ⟨rfl, nx_w hk hc hL (by omega) (by omega)⟩
      · exact sM_of (m_next_W ht hp hpl hk hz ha hc hL (by omega)) ⟨rfl, nx_W hk hc hL (by omega)⟩
    | false =>
      cases hD : isD (y a) with
      | true =>
        have hw := rE_ok (p := isD) (y := y) (a := a) (s := s) (by omega)
        by_cases c2 : rE isD y s a ≤ a + 3
        · exact sM_of (m_next_n (L := rE isD y s a - a) ht hp hpl hk hz ha hc hD (by omega) (by omega)) ⟨rfl, nx_n hk hc hD (by omega) (by omega)⟩
        · exact sM_of (m_next_N ht hp hpl hk hz ha hc hD (by omega)) ⟨rfl, nx_N hk hc hD (by omega)⟩
      | false => exact sM_of (m_next_s ht hp hpl hk hz ha hc hL hD) ⟨rfl, nx_s hk hc hL hD (ht.2.1 a)⟩
end MU
