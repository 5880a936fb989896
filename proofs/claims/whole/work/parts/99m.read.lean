/-! ===== the class: texts read ===== -/
def cFd (S : ST) (n : Nat) (sz : Nat → Nat) (fn d : Nat) (Fn : Nat → Nat → Bool) (nm : Nat → Int64) : Prop := SI S 7 5 = ((fn : Nat) : Int) ∧ SI S 7 6 = ((d : Nat) : Int) ∧ fn + d ≤ 40 ∧ (∀ i, i < fn + d → rowS S (9 + i) 0 (Fn i)) ∧ rowS S 51 0 (evr (pr sz n)) ∧ (∀ i, i < fn + d → SL S 49 i = nm i) ∧ (∀ i, i < fn + d → tbT (pr sz n) (Fn i))
def CId (S : ST) (n : Nat) (sz : Nat → Nat) (wt : Nat → Int) (ro : Nat → Bool) (fn d : Nat) (Fn : Nat → Nat → Bool) (nm : Nat → Int64) (ord : Nat → Nat) (sd : Option (Nat → Bool)) (tr tn : Int) (up lo : Int64) (Z : Nat) : Prop := vC S n sz ∧ wC S wt ro ∧ (∃ wb, gC S n sz wt ro wb) ∧ cFd S n sz fn d Fn nm ∧ cD S n sz ord fn Fn sd Z ∧ SI S 0 7 = tr ∧ SI S 0 8 = tn ∧ SL S 0 9 = up ∧ SL S 0 10 = lo
section CR
variable {X : List Int32} {S : ST} {n fn Z : Nat} {sz ord : Nat → Nat} {wt : Nat → Int} {ro : Nat → Bool} {Fn : Nat → Nat → Bool} {nm : Nat → Int64} {sd : Option (Nat → Bool)} {tr tn : Int} {up lo : Int64} {d : Nat}
theorem CId_0 (h : CId S n sz wt ro fn 0 Fn nm ord sd tr tn up lo Z) : CI S n sz wt ro fn Fn nm ord sd tr tn up lo Z := by
  obtain ⟨h1, h2, h3, ⟨f1, f2, f3, f4, f5, f6, f7⟩, h5⟩ := h
  exact ⟨h1, h2, h3, ⟨f1, f2, f3, f4, f5, f6, f7⟩, h5⟩
theorem lup_self (Fn : Nat → Nat → Bool) (k : Nat) : lup Fn k (Fn k) = Fn := funext fun i => by
  by_cases c : i = k
  · rw [c, lup_at]
  · rw [lup_ne c]
theorem CId_adopt (h : CId S n sz wt ro fn (d + 1) Fn nm ord sd tr tn up lo Z) : sM X 15 133 [.ref 0] S (fun r S' => r = some (.int (iI ((fn : Nat) : Int))) ∧ CId S' n sz wt ro (fn + 1) d Fn nm ord sd tr tn up lo Z ∧ frX S S') := by
  obtain ⟨hvC, hwC, ⟨wb, hgC⟩, ⟨f1, f2, f3, f4, f5, f6, f7⟩, ⟨b, R, pl, D, U, rt, hR, hro, hsd, hz1, hz2⟩, t1, t2, t3, t4⟩ := h
  have hb58 := hR.1.1.1.1
  have hlen := dA_len hR.1.1.1
  refine sM.weaken (c_adopt (dr := d + 1) hvC hR f1 f2 (by omega) (by omega) (f4 fn (by omega)) (f7 fn (by omega))) ?_
  rintro r S' ⟨h1, y, b', R', D', U', h2, h3, h4, h5, h6, h7, h8, k1, k2, k3, k4, k5, k6⟩
  rw [lup_self] at h2
  have kk : ∀ c, c < 52 → c ≠ 50 → c ≠ 7 → SI S' c = SI S c := fun c hc hc1 hc2 => k4 c (by omega) (Or.inl hc) (by omega) hc1 hc2
  have kl : ∀ c, c < 64 → SL S' c = SL S c := fun c hc => k3 c (by omega)
  refine ⟨h1, ⟨?_, ?_, ⟨wb, ?_⟩, ⟨h4, h5, by omega, fun i hi k hk => ?_, fun k hk => ?_, fun i hi => ?_, fun i hi => f7 i (by omega)⟩, ⟨b', R', pl, D', U', fup rt fn y, h2, fun i hi => ?_, ?_, ?_, ?_⟩, ?_, ?_, ?_, ?_⟩, k1, fun c c1 c2 => ⟨?_, ?_, ?_⟩, fun c m hc => ?_⟩
  · obtain ⟨v1, v2, v3, v4, v5⟩ := hvC
    refine ⟨v1, ?_, ?_, ?_, ?_⟩
    · rw [kk 1 (by omega) (by omega) (by omega)]
      exact v2
    · rw [kk 1 (by omega) (by omega) (by omega)]
      exact v3
    · rw [kk 2 (by omega) (by omega) (by omega)]
      exact v4
    · rw [kk 3 (by omega) (by omega) (by omega)]
      exact v5
  · unfold wC at *
    rw [kk 4 (by omega) (by omega) (by omega), kk 5 (by omega) (by omega) (by omega)]
    exact hwC
  · unfold gC at *
    rw [kk 1 (by omega) (by omega) (by omega), kl 6 (by omega)]
    exact hgC
  · rw [kl (9 + i) (by omega)]
    exact f4 i (by omega) k hk
  · rw [kl 51 (by omega)]
    exact f5 k hk
  · rw [kl 49 (by omega)]
    exact f6 i (by omega)
  · by_cases ci : i = fn
    · rw [ci, fup_at]
      exact h6
    · rw [fup_ne ci, h7 i ci]
      exact hro i (by omega)
  · rcases hsd with ⟨a1, a2⟩ | ⟨g9, y9, a1, a2, a3, a4⟩
    · exact Or.inl ⟨a1, by rw [kk 0 (by omega) (by omega) (by omega)]; exact a2⟩
    · exact Or.inr ⟨g9, y9, a1, by rw [kk 0 (by omega) (by omega) (by omega)]; exact a2, (h3 y9 a3).1, (h3 y9 a3).2.trans a4⟩
  · omega
  · omega
  · rw [kk 0 (by omega) (by omega) (by omega)]
    exact t1
  · rw [kk 0 (by omega) (by omega) (by omega)]
    exact t2
  · rw [kl 0 (by omega)]
    exact t3
  · rw [kl 0 (by omega)]
    exact t4
  · exact k4 c (by omega) (by omega) (by omega) (by omega) (by omega)
  · exact k3 c (by omega)
  · exact k2 c (by omega)
  · have hl := kd_len hc
    have hA := hR.1.1.1
    refine k4 c hl ?_ ?_ ?_ ?_
    · refine Classical.byContradiction fun z => ?_
      have : c = 52 ∨ c = 53 ∨ c = 54 ∨ c = 55 ∨ c = 56 ∨ c = 57 := by omega
      rcases this with q | q | q | q | q | q <;> (rw [q] at hc; first | (rw [sk_52] at hc; cases hc) | (rw [sk_53] at hc; cases hc) | (rw [sk_54] at hc; cases hc) | (rw [sk_55] at hc; cases hc) | (rw [sk_56] at hc; cases hc) | (rw [sk_57] at hc; cases hc))
    · refine Classical.byContradiction fun z => ?_
      obtain ⟨_, _, _, _, _, _, _, _, _, a0, a1, a2, a3, a4, a5⟩ := hA
      have : c = b ∨ c = b + 1 ∨ c = b + 2 ∨ c = b + 3 ∨ c = b + 4 ∨ c = b + 5 := by omega
      rcases this with q | q | q | q | q | q
      · rw [q, a0] at hc; cases hc
      · rw [q, a1] at hc; cases hc
      · rw [q, a2] at hc; cases hc
      · rw [q, a3] at hc; cases hc
      · rw [q, a4] at hc; cases hc
      · rw [q, a5] at hc; cases hc
    · intro q
      rw [q, sk_50] at hc
      cases hc
    · intro q
      rw [q, sk_7] at hc
      cases hc
theorem tb_cut {T : Nat} {p : Nat → Bool} : tbT T (fun r => p r && decide (r < T)) := fun r hr => by
  show (p r && decide (r < T)) = false
  rw [decide_eq_false (show ¬ r < T by omega), Bool.and_false]
theorem tb_ivt {T : Nat} {f : Nat → Bool} : tbT T (ivt T f) := tb_cut
theorem tb_lit {T op i : Nat} {f : Nat → Nat × Nat × (Nat → Bool)} (h : ∀ j, (f j).1 = 0 → tbT T (f j).2.2) : ∀ t, (lit T op f i t).1 = 0 → tbT T (lit T op f i t).2.2
  | 0, q => h i q
  | t + 1, _ => tb_cut
theorem tb_lev {K : Nat → Nat} {T k op : Nat} {f : Nat → Nat × Nat × (Nat → Bool)} (h : ∀ j, (f j).1 = 0 → tbT T (f j).2.2) (i : Nat) (q : (lev K T k op f i).1 = 0) : tbT T (lev K T k op f i).2.2 := tb_lit h _ q
theorem tb_ivS {K : Nat → Nat} {T : Nat} {f : Nat → Nat × Nat × (Nat → Bool)} (h : ∀ j, (f j).1 = 0 → tbT T (f j).2.2) (i : Nat) (q : (ivS K T f i).1 = 0) : tbT T (ivS K T f i).2.2 := by
  unfold ivS at q ⊢
  by_cases c : (f i).1 = 0 ∧ K (f i).2.1 = 256
  · rw [if_pos c]
    exact tb_ivt
  · rw [if_neg c] at q ⊢
    exact h i q
theorem tb_frm {K : Nat → Nat} {T : Nat} {g : Nat → Nat × Nat × (Nat → Bool)} (h : ∀ j, (g j).1 = 0 → tbT T (g j).2.2) (i : Nat) (q : (frm K T g i).1 = 0) : tbT T (frm K T g i).2.2 := tb_lev (tb_lev (tb_ivS (tb_lev (tb_lev (tb_lev h))))) i q
theorem tb_bdA {n : Nat} {sz : Nat → Nat} {all : Bool} {x : Int} {f : Nat → Bool} (h : tbT (pr sz n) f) : ∀ v, tbT (pr sz n) (bdA sz n all x f v)
  | 0 => h
  | v + 1 => by
    have ih := tb_bdA (all := all) (x := x) h v
    by_cases c : iB (iI x) v = true
    · rw [show bdA sz n all x f (v + 1) = _ from if_pos c]
      intro r hr
      show (if r < pr sz n then _ else bdA sz n all x f v r) = false
      rw [if_neg (by omega)]
      exact ih r hr
    · rw [show bdA sz n all x f (v + 1) = _ from if_neg c]
      exact ih
theorem tb_xpR {K : Nat → Nat} {w T : Nat} {R : Nat × Nat × (Nat → Bool)} (h : R.1 = 0 → tbT T R.2.2) (q : (xpR K w R).1 = 0) : tbT T (xpR K w R).2.2 := by
  unfold xpR at q ⊢
  by_cases c : R.1 = 0
  · rw [if_neg (fun z => z c)] at q ⊢
    by_cases c2 : K R.2.1 = w
    · rw [if_pos c2]
      exact h c
    · rw [if_neg c2] at q
      exact absurd q (rf_nz (K := K) (q := 2) (a := R.2.1) (by decide))
  · rw [if_pos c] at q
    exact absurd q c
theorem tb_nst {K : Nat → Nat} {C : Nat → Int64} {g : Nat → Nat × Nat × (Nat → Bool)} (h : ∀ j, (g j).1 = 0 → tbT (pr sz n) (g j).2.2) (i : Nat) (q : (nst K C n sz g i).1 = 0) : tbT (pr sz n) (nst K C n sz g i).2.2 := by
  unfold nst at q ⊢
  by_cases c1 : K i = 33
  · rw [if_pos c1]
    exact tb_ivt
  · rw [if_neg c1] at q ⊢
    by_cases c2 : K i = 40
    · rw [if_pos c2] at q ⊢
      exact tb_xpR (fun z => tb_frm h _ z) q
    · rw [if_neg c2] at q ⊢
      by_cases c3 : (pVs K C n (i + 1) (nVs K C n (i + 1))).1 = 0
      · rw [if_neg (fun z => z c3)] at q ⊢
        by_cases c4 : K (pVs K C n (i + 1) (nVs K C n (i + 1))).2.1 = 46
        · rw [if_pos c4] at q ⊢
          exact tb_bdA (h _ q) n
        · rw [if_neg c4] at q
          exact absurd q (rf_nz (K := K) (q := 2) (a := (pVs K C n (i + 1) (nVs K C n (i + 1))).2.1) (by decide))
      · rw [if_pos c3] at q
        exact absurd q c3
theorem tb_atm {x z : Int} : tbT (pr sz n) (atm n sz x z) := fun r hr => by
  show ((false : Bool) || (decide (r < pr sz n) && _)) = false
  rw [decide_eq_false (show ¬ r < pr sz n by omega), Bool.false_and, Bool.or_false]
theorem tb_lef {K : Nat → Nat} {C : Nat → Int64} {N : Nat} (hF : ∀ i, i < N → tbT (pr sz n) (Fn i)) (i : Nat) (q : (lef K C n sz N Fn nm i).1 = 0) : tbT (pr sz n) (lef K C n sz N Fn nm i).2.2 := by
  unfold lef at q ⊢
  by_cases c1 : K i = 260 ∨ K i = 261
  · rw [if_pos c1]
    unfold pCon
    show tbT (pr sz n) (if K i = 260 then _ else _)
    split
    · exact tb_ivt
    · exact fun _ _ => rfl
  · rw [if_neg c1] at q ⊢
    by_cases c2 : K i = 258
    · rw [if_pos c2] at q ⊢
      unfold pNam at q ⊢
      by_cases c3 : fnd nm (C i) N 0 = -1
      · rw [if_pos c3] at q
        cases q
      · rw [if_neg c3]
        have hb := fnd_b (nm := nm) (x := C i) N 0
        exact hF _ (by omega)
    · rw [if_neg c2] at q ⊢
      by_cases c3 : K i = 35
      · rw [if_pos c3] at q ⊢
        unfold pAtm at q ⊢
        by_cases c4 : (pVar K C n i).1 = 0
        · rw [if_neg (fun z => z c4)] at q ⊢
          by_cases c5 : K (pVar K C n i).2.1 = 61
          · rw [if_pos c5]
            exact tb_atm
          · rw [if_neg c5] at q ⊢
            by_cases c6 : sz (pVar K C n i).2.2.toNat = 2
            · rw [if_neg (fun z => z c6)]
              exact tb_atm
            · rw [if_pos c6] at q
              cases q
        · rw [if_pos c4] at q
          exact absurd q c4
      · rw [if_neg c3] at q
        exact absurd q (rf_nz (K := K) (q := 2) (a := i) (by decide))
theorem tb_one {K : Nat → Nat} {C : Nat → Int64} {N : Nat} (hF : ∀ i, i < N → tbT (pr sz n) (Fn i)) : ∀ D i, (one K C n sz N Fn nm D i).1 = 0 → tbT (pr sz n) (one K C n sz N Fn nm D i).2.2
  | 0, i, q => by
    by_cases c : K i = 33 ∨ K i = 40 ∨ K i = 262 ∨ K i = 263
    · rw [show one K C n sz N Fn nm 0 i = _ from if_pos c] at q
      cases q
    · rw [show one K C n sz N Fn nm 0 i = _ from if_neg c] at q ⊢
      exact tb_lef hF i q
  | D + 1, i, q => by
    by_cases c : K i = 33 ∨ K i = 40 ∨ K i = 262 ∨ K i = 263
    · rw [show one K C n sz N Fn nm (D + 1) i = _ from if_pos c] at q ⊢
      exact tb_nst (fun j => tb_one hF D j) i q
    · rw [show one K C n sz N Fn nm (D + 1) i = _ from if_neg c] at q ⊢
      exact tb_lef hF i q
theorem tb_def {K : Nat → Nat} {C : Nat → Int64} {N i : Nat} (hF : ∀ i, i < N → tbT (pr sz n) (Fn i)) (q : (pDef K C n sz N Fn nm i).1 = 0) : tbT (pr sz n) (pDef K C n sz N Fn nm i).2.2 := by
  unfold pDef at q ⊢
  by_cases c1 : K i = 258
  · rw [if_neg (fun z => z c1)] at q ⊢
    by_cases c2 : fnd nm (C i) N 0 = -1
    · rw [if_neg (fun z => z c2)] at q ⊢
      by_cases c3 : N = 40
      · rw [if_pos c3] at q
        cases q
      · rw [if_neg c3] at q ⊢
        by_cases c4 : K (i + 1) = 58
        · rw [if_neg (fun z => z c4)] at q ⊢
          exact tb_xpR (fun z => tb_frm (tb_one hF 20) _ z) q
        · rw [if_pos c4] at q
          exact absurd q (rf_nz (K := K) (q := 2) (a := i + 1) (by decide))
    · rw [if_pos c2] at q
      cases q
  · rw [if_pos c1] at q
    exact absurd q (rf_nz (K := K) (q := 2) (a := i) (by decide))
theorem tb_tx {K : Nat → Nat} {C : Nat → Int64} (hF : ∀ i, i < fn → tbT (pr sz n) (Fn i)) : ∀ t, (∀ i, i < fn + (tx K C n sz fn Fn nm t).2.2.1 → tbT (pr sz n) ((tx K C n sz fn Fn nm t).2.2.2.1 i)) ∧ (∀ i, i < fn → (tx K C n sz fn Fn nm t).2.2.2.1 i = Fn i ∧ (tx K C n sz fn Fn nm t).2.2.2.2 i = nm i)
  | 0 => ⟨hF, fun _ _ => ⟨rfl, rfl⟩⟩
  | t + 1 => by
    have ih := tb_tx (K := K) (C := C) hF t
    by_cases c : (pDef K C n sz (fn + (tx K C n sz fn Fn nm t).2.2.1) (tx K C n sz fn Fn nm t).2.2.2.1 (tx K C n sz fn Fn nm t).2.2.2.2 (tx K C n sz fn Fn nm t).2.1).1 = 0
    · have hd := tb_def ih.1 c
      rw [show tx K C n sz fn Fn nm (t + 1) = _ from if_pos c]
      generalize tx K C n sz fn Fn nm t = q at *
      refine ⟨fun i hi => ?_, fun i hi => ⟨?_, ?_⟩⟩
      · by_cases ci : i = fn + q.2.2.1
        · rw [ci]
          show tbT (pr sz n) (lup _ _ _ (fn + q.2.2.1))
          rw [lup_at]
          exact hd
        · show tbT (pr sz n) (lup _ _ _ i)
          rw [lup_ne ci]
          exact ih.1 i (by have : i < fn + (q.2.2.1 + 1) := hi; omega)
      · show lup _ _ _ i = _
        rw [lup_ne (by omega)]
        exact (ih.2 i hi).1
      · show nup _ _ _ i = _
        exact (if_neg (by omega)).trans (ih.2 i hi).2
    · rw [show tx K C n sz fn Fn nm (t + 1) = _ from if_neg c]
      exact ih
end CR
