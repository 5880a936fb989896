/-! ===== the reference's reading: states ===== -/
/-- alive with token i; dead with a fault -/
def mA (S : ST) (y : Nat → Nat) (s i : Nat) : Prop := mt S y s ∧ SI S 179 14 = 0 ∧ SI S 179 23 = ((tP y s (i + 1) : Nat) : Int) ∧ SI S 179 24 = rc (tk y s i) ∧ SI S 179 25 = ((tA y s i : Nat) : Int) ∧ tk y s i ≠ 265 ∧ (tk y s i = 258 → SL S 179 26 = tC y s (tA y s i)) ∧ (tk y s i = 259 → SI S 179 27 = cI (tC y s (tA y s i)))
def mX (S : ST) (y : Nat → Nat) (s k p : Nat) : Prop := mt S y s ∧ SI S 179 14 = ((k : Nat) : Int) ∧ (1 ≤ k ∧ k ≤ 5) ∧ SI S 179 28 = ((p : Nat) : Int) ∧ ∃ q : Nat, q ≤ s ∧ SI S 179 23 = ((q : Nat) : Int)
/-- behind a step to token i -/
def mN (S : ST) (y : Nat → Nat) (s i : Nat) : Prop := (tk y s i ≠ 265 ∧ mA S y s i) ∨ (tk y s i = 265 ∧ mX S y s 1 (tA y s i))
section MW
variable {X : List Int32} {S : ST} {y : Nat → Nat} {s i : Nat}
theorem mt_fr {S' : ST} (h : mt S y s) (f : frJ S S') : mt S' y s := ⟨h.1, h.2.1, by rw [f.2.2.2.1 22 (by decide) (by decide) (by decide) (by decide) (by decide) (by decide)]; exact h.2.2.1, fun j hj => by rw [f.2.2.1 188 (by decide)]; exact h.2.2.2 j hj⟩
theorem nx_N2 {S' : ST} {p : Nat} (ht : mt S y s) (hq : nxQ S y s (rE isB y s p) 0 S') (hi : p = tP y s i) : mN S' y s i := by
  subst hi
  obtain ⟨hf, h25, hb, hg⟩ := hq
  by_cases c : tk y s i = 265
  · have hb := hb c
    rw [if_pos rfl, if_pos rfl] at hb
    exact Or.inr ⟨c, mt_fr ht hf, hb.1, ⟨by decide, by decide⟩, hb.2.1, hb.2.2⟩
  · have hg := hg c
    exact Or.inl ⟨c, mt_fr ht hf, hg.1, hg.2.2.1, hg.2.2.2.1, h25, c, hg.2.2.2.2.1, hg.2.2.2.2.2⟩
theorem m_nextA (h : mA S y s i) : sM X 2 197 [.ref 179] S (fun r S' => r = none ∧ frJ S S' ∧ mN S' y s (i + 1)) :=
  sM.weaken (m_next (kz := 0) h.1 h.2.2.1 (tP_le _) h.2.1 ⟨by decide, by decide⟩ rfl) (fun r S' q => ⟨q.1, q.2.1, nx_N2 h.1 q.2 rfl⟩)
theorem m_nextX {k p : Nat} (h : mX S y s k p) : sM X 2 197 [.ref 179] S (fun r S' => r = none ∧ frJ S S' ∧ mX S' y s k p) := by
  obtain ⟨ht, h14, hk, h28, q, hq, h23⟩ := h
  refine sM.weaken (m_next (kz := ((k : Nat) : Int)) ht h23 hq h14 ⟨by omega, by omega⟩ rfl) (fun r S' z => ⟨z.1, z.2.1, ?_⟩)
  obtain ⟨hf, h25, hb, hg⟩ := z.2
  by_cases c : tK y s (rE isB y s q) = 265
  · have hb := hb c
    rw [if_neg (by omega), if_neg (by omega)] at hb
    exact ⟨mt_fr ht hf, hb.1, hk, hb.2.1.trans h28, hb.2.2⟩
  · have hg := hg c
    exact ⟨mt_fr ht hf, hg.1, hk, hg.2.1.trans h28, _, (tE_ok (y := y) (rE_ok (p := isB) (y := y) hq).1.2).1.2, hg.2.2.1⟩
theorem m_findName {nc : Nat} {nm : Nat → Int64} {x : Int64} (hn : SI S 179 17 = ((nc : Nat) : Int)) (h40 : nc ≤ 40) (hnm : ∀ i, i < nc → SL S 189 i = nm i) : sM X 0 205 [.ref 179, .long x] S (sV (some (.int (iI (fnd nm x nc 0)))) S) := by
  refine sIni (ls := [some (.ref 179), some (.long x), none, none]) rfl ?_
  refine sKi (p := 1) rfl rfl ?_
  refine sL (pc' := 2) (i := .istore_n 3) (ls' := [some (.ref 179), some (.long x), none, some (.int (iI 0))]) rfl rfl ?_
  refine sIt (A := fun i => [some (.ref 179), some (.long x), none, some (.int (iI ((i : Nat) : Int)))]) (B := fun _ => S) (fun i => fnd nm x nc 0 = fnd nm x (nc - i) i) nc (by rw [Nat.sub_zero]) (fun i hi2 hI2 ih2 => ?_) (fun hI2 => ?_)
  · have hi2 := hi2
    refine sL (pc' := 3) (i := .iload_n 3) rfl rfl ?_
    refine sL (pc' := 4) (i := .aload_n 0) rfl rfl ?_
    refine sGi (p := 7) rfl rfl (sk_179 _) rfl rfl rfl hn ?_
    refine sIc_ge (p := 10) rfl rfl ⟨by omega, by omega⟩ ⟨by omega, by omega⟩ (fun c1 => ?_) (fun c1 => ?_)
    · exfalso; omega
    · have c1 := c1
      refine sL (pc' := 11) (i := .aload_n 0) rfl rfl ?_
      refine sGc (p := 14) rfl rfl (sk_179 _) rfl rfl rfl ?_
      refine sL (pc' := 15) (i := .iload_n 3) rfl rfl ?_
      refine sAl (p := 16) (i := i) rfl rfl (sk_189 _) (by omega) ⟨by omega, by omega⟩ (hnm _ (by omega)) ?_
      refine sL (pc' := 17) (i := .lload_n 1) rfl rfl ?_
      refine sLq_ne (p := 21) rfl rfl rfl (fun c2 => ?_) (fun c2 => ?_)
      · have c2 := c2
        refine sInX (z := ((i : Nat) : Int)) (ls' := [some (.ref 179), some (.long x), none, some (.int (iI (((i : Nat) : Int) + 1)))]) (p := 26) rfl rfl (Nat.le_of_ble_eq_true rfl) rfl rfl ?_
        refine sL (i := .goto (-24)) rfl rfl ?_
        refine sRo (ls := [some (.ref 179), some (.long x), none, some (.int (iI ((i + 1 : Nat) : Int)))]) (T := _) (And.intro rfl (And.intro rfl (And.intro rfl (True.intro)))) (rfl) (ih2 ?_)
        rw [hI2, show nc - i = (nc - (i + 1)) + 1 from by omega]
        show (if nm i = x then (i : Int) else _) = _
        rw [if_neg (by assumption)]
      · have c2 := c2
        refine sL (pc' := 22) (i := .iload_n 3) rfl rfl ?_
        refine sEn (i := .ireturn) rfl (rfl) ?_
        exact ⟨by rw [hI2, show nc - i = (nc - (i + 1)) + 1 from by omega]; show _ = some (Value.int (iI (if nm i = x then (i : Int) else _))); rw [if_pos (by assumption)], rfl⟩
  · have hI2 := hI2
    refine sL (pc' := 3) (i := .iload_n 3) rfl rfl ?_
    refine sL (pc' := 4) (i := .aload_n 0) rfl rfl ?_
    refine sGi (p := 7) rfl rfl (sk_179 _) rfl rfl rfl hn ?_
    refine sIc_ge (p := 10) rfl rfl ⟨by omega, by omega⟩ ⟨by omega, by omega⟩ (fun c3 => ?_) (fun c3 => ?_)
    · have c3 := c3
      refine sKi (p := 30) rfl rfl ?_
      refine sEn (i := .ireturn) rfl (rfl) ?_
      exact ⟨by rw [hI2, Nat.sub_self]; rfl, rfl⟩
    · exfalso; omega
end MW
