/-! ===== the class's reader ===== -/
def rdE (S : ST) (K A : Nat → Nat) (C : Nat → Int64) (m n : Nat) (sz : Nat → Nat) (fn dr : Nat) (Fn : Nat → Nat → Bool) (nm : Nat → Int64) : Prop := (m ≤ 400 ∧ (∀ k, K k ≤ 265) ∧ (K m = 264 ∨ K m = 265) ∧ ∀ j, j < m → K j ≠ 264 ∧ K j ≠ 265) ∧ SI S 64 6 = ((m + 1 : Nat) : Int) ∧ (∀ k, k ≤ m → SI S 66 k = ((K k : Nat) : Int) ∧ SI S 67 k = ((A k : Nat) : Int) ∧ SL S 68 k = C k) ∧ vC S n sz ∧ rowS S 51 0 (evr (pr sz n)) ∧ SI S 7 5 = ((fn : Nat) : Int) ∧ SI S 7 6 = ((dr : Nat) : Int) ∧ fn + dr ≤ 40 ∧ (∀ i, i < fn + dr → rowS S (9 + i) 0 (Fn i)) ∧ ∀ i, i < fn + dr → SL S 49 i = nm i
/-- alive at a token; dead with a fault -/
def rA (S : ST) (K : Nat → Nat) (i : Nat) : Prop := SI S 69 4 = ((i : Nat) : Int) ∧ SI S 69 5 = ((K i : Nat) : Int) ∧ SI S 69 6 = 0
def rX (S : ST) (m k p : Nat) : Prop := (∃ j : Nat, j ≤ m ∧ SI S 69 4 = ((j : Nat) : Int)) ∧ SI S 69 5 = 266 ∧ SI S 69 6 = ((k : Nat) : Int) ∧ (1 ≤ k ∧ k ≤ 5) ∧ SI S 69 7 = ((p : Nat) : Int)
/-- only the reader's own cells change, and slots from `a` on -/
def frR (a : Nat) (S S' : ST) : Prop := S'.1 = S.1 ∧ SR S' = SR S ∧ (∀ c, c ≠ 69 → SI S' c = SI S c) ∧ ∀ c, (c < 71 + a ∨ 176 < c) → SL S' c = SL S c
theorem frR_refl (a : Nat) (S : ST) : frR a S S := ⟨rfl, rfl, fun _ _ => rfl, fun _ _ => rfl⟩
theorem frR_trans {a : Nat} {S T V : ST} (h : frR a S T) (k : frR a T V) : frR a S V := ⟨k.1.trans h.1, k.2.1.trans h.2.1, fun c hc => (k.2.2.1 c hc).trans (h.2.2.1 c hc), fun c hc => (k.2.2.2 c hc).trans (h.2.2.2 c hc)⟩
theorem frR_le {a b : Nat} {S T : ST} (h : frR b S T) (hab : a ≤ b) : frR a S T := ⟨h.1, h.2.1, h.2.2.1, fun c hc => h.2.2.2 c (by omega)⟩
theorem frR_w {a k : Nat} {S : ST} {z : Int} : frR a S (wI S 69 k z) := ⟨rfl, rfl, fun c hc => funext fun j => rI_ne hc j, fun _ _ => rfl⟩
theorem frR_row {a b : Nat} {S : ST} {f : Nat → Bool} (h : a ≤ b) (hb : b < 106) : frR a S (wRw S (71 + b) 0 f) := ⟨rfl, rfl, fun _ _ => rfl, fun c hc => by
  funext k
  rw [SL_wRw, if_neg (by omega)]⟩
theorem rowS_fr {a c : Nat} {S T : ST} {f : Nat → Bool} (h : frR a S T) (hc : c < 71 + a) (hf : rowS S c 0 f) : rowS T c 0 f := fun k hk => by
  rw [h.2.2.2 c (Or.inl hc)]
  exact hf k hk
theorem rowS_ex (S : ST) (c : Nat) : ∃ f, rowS S c 0 f := ⟨fun r => bL (SL S c (r / 64)) (r % 64), fun k _ => bL_ext (fun j hj => by
  rw [bL_pkw hj, Nat.zero_add]
  show _ = bL (SL S c ((64 * k + j) / 64)) ((64 * k + j) % 64)
  rw [show (64 * k + j) / 64 = k from by omega, show (64 * k + j) % 64 = j from by omega])⟩
section RD
variable {X : List Int32} {S : ST} {K A : Nat → Nat} {C : Nat → Int64} {m n fn dr : Nat} {sz : Nat → Nat} {Fn : Nat → Nat → Bool} {nm : Nat → Int64}
theorem rdE_fr {a : Nat} {S' : ST} (h : rdE S K A C m n sz fn dr Fn nm) (f : frR a S S') : rdE S' K A C m n sz fn dr Fn nm := by
  obtain ⟨h0, h1, h2, h3, h4, h5, h6, h7, h8, h9⟩ := h
  obtain ⟨f1, f2, f3, f4⟩ := f
  refine ⟨h0, by rw [f3 64 (by decide)]; exact h1, fun k hk => ?_, ?_, fun k hk => by rw [f4 51 (by omega)]; exact h4 k hk, by rw [f3 7 (by decide)]; exact h5, by rw [f3 7 (by decide)]; exact h6, h7, fun i hi k hk => by rw [f4 (9 + i) (by omega)]; exact h8 i hi k hk, fun i hi => by rw [f4 49 (by omega)]; exact h9 i hi⟩
  · rw [f3 66 (by decide), f3 67 (by decide), f4 68 (by omega)]
    exact h2 k hk
  · obtain ⟨v1, v2, v3, v4, v5⟩ := h3
    refine ⟨v1, ?_, ?_, fun i hi => ?_, fun i hi => ?_⟩
    · rw [f3 1 (by decide)]
      exact v2
    · rw [f3 1 (by decide)]
      exact v3
    · rw [f3 2 (by decide)]
      exact v4 i hi
    · rw [f3 3 (by decide)]
      exact v5 i hi
def rf (K : Nat → Nat) (q a : Nat) : Nat := if q = 2 ∧ K a = 265 then 1 else q
theorem rA_w {i : Nat} {c k : Nat} {z : Int} (h : rA S K i) (hc : c ≠ 69) : rA (wI S c k z) K i := ⟨(rI_ne (fun q => hc q.symm) _).trans h.1, (rI_ne (fun q => hc q.symm) _).trans h.2.1, (rI_ne (fun q => hc q.symm) _).trans h.2.2⟩
theorem rX_w {k p : Nat} (h : rX S m k p) : rX (wI S 69 5 266) m k p := by
  obtain ⟨⟨j, hj, h4⟩, h5, h6, h7, h8⟩ := h
  exact ⟨⟨j, hj, (rI_nj (by decide)).trans h4⟩, rI_at, (rI_nj (by decide)).trans h6, h7, (rI_nj (by decide)).trans h8⟩
theorem c_slot {a : Nat} (ha : a < 106) : sM X 1 88 [.ref 69, .int (iI ((a : Nat) : Int))] S (sV (some (.ref (71 + a))) S) := by
  refine sIni (ls := [some (.ref 69), some (.int (iI ((a : Nat) : Int)))]) rfl ?_
  refine sL (pc' := 1) (i := .aload_n 0) rfl rfl ?_
  refine sGc (p := 4) rfl rfl (sk_69 _) rfl rfl rfl ?_
  refine sKi (p := 5) rfl rfl ?_
  refine sL (pc' := 6) (i := .iload_n 1) rfl rfl ?_
  refine sKb (p := 8) rfl rfl ?_
  refine sCs (p := 11) (as := [_, _]) rfl rfl rfl rfl (by decide) (Nat.le_of_ble_eq_true rfl) rfl (Nat.le_of_ble_eq_true rfl) rfl (by omega) (c_min (x := ((a : Nat) : Int)) (y := 105) ⟨by omega, by omega⟩ ⟨by omega, by omega⟩) ?_
  rw [if_neg (show ¬ (105 : Int) < ((a : Nat) : Int) by omega)]
  refine sCs (p := 14) (as := [_, _]) rfl rfl rfl rfl (by decide) (Nat.le_of_ble_eq_true rfl) rfl (Nat.le_of_ble_eq_true rfl) rfl (by omega) (c_max (x := 0) (y := ((a : Nat) : Int)) ⟨by omega, by omega⟩ ⟨by omega, by omega⟩) ?_
  rw [show (if (0 : Int) < ((a : Nat) : Int) then ((a : Nat) : Int) else 0) = ((a : Nat) : Int) from by split <;> omega]
  refine sAa (p := 15) (i := a) rfl rfl (sk_70 _) (by omega) (by omega) (slots_at ha) ?_
  refine sEn (i := .areturn) rfl (rfl) ?_
  exact ⟨rfl, rfl⟩
theorem c_advance {i : Nat} (hE : rdE S K A C m n sz fn dr Fn nm) (hA : rA S K i) (hi : i < m) : sM X 0 106 [.ref 69] S (fun r S' => r = none ∧ rA S' K (i + 1) ∧ frR 106 S S') := by
  have hm := hE.1.1
  refine sIni (ls := [some (.ref 69)]) rfl ?_
  refine sL (pc' := 1) (i := .aload_n 0) rfl rfl ?_
  refine sGi (p := 4) rfl rfl (sk_69 _) rfl rfl rfl hA.2.2 ?_
  refine sIf_ne (p := 7) rfl rfl ⟨by omega, by omega⟩ (fun c1 => ?_) (fun c1 => ?_)
  · exact absurd c1 (by decide)
  · have c1 := c1
    refine sL (pc' := 8) (i := .aload_n 0) rfl rfl ?_
    refine sGi (p := 11) rfl rfl (sk_69 _) rfl rfl rfl hA.1 ?_
    refine sKi (p := 12) rfl rfl ?_
    refine sAd (p := 13) rfl rfl ?_
    refine sL (pc' := 14) (i := .aload_n 0) rfl rfl ?_
    refine sGc (p := 17) rfl rfl (sk_69 _) rfl rfl rfl ?_
    refine sGi (p := 20) rfl rfl (sk_64 _) rfl rfl rfl hE.2.1 ?_
    refine sIc_lt (p := 23) rfl rfl ⟨by omega, by omega⟩ ⟨by omega, by omega⟩ (fun c2 => ?_) (fun c2 => ?_)
    · have c2 := c2
      refine sL (pc' := 32) (i := .aload_n 0) rfl rfl ?_
      refine sL (pc' := 33) (i := .dup) rfl rfl ?_
      refine sGi (p := 36) rfl rfl (sk_69 _) rfl rfl rfl hA.1 ?_
      refine sKi (p := 37) rfl rfl ?_
      refine sAd (p := 38) rfl rfl ?_
      refine sPi (z := (((i : Nat) : Int) + 1)) (p := 41) rfl rfl (sk_69 _) rfl rfl rfl rfl ?_
      refine sL (pc' := 42) (i := .aload_n 0) rfl rfl ?_
      refine sL (pc' := 43) (i := .aload_n 0) rfl rfl ?_
      refine sGc (p := 46) rfl rfl (sk_69 _) rfl rfl rfl ?_
      refine sGc (p := 49) rfl rfl (sk_64 _) rfl rfl rfl ?_
      refine sL (pc' := 50) (i := .aload_n 0) rfl rfl ?_
      refine sGi (p := 53) (z := (((i : Nat) : Int) + 1)) rfl rfl (sk_69 _) rfl rfl rfl rfl ?_
      refine sAi (p := 54) (i := i + 1) rfl rfl (sk_66 _) (by omega) ⟨by omega, by omega⟩ ((rI_ne (by decide) _).trans (hE.2.2.1 _ (by omega)).1) ?_
      refine sPi (z := ((K (i + 1) : Nat) : Int)) (p := 57) rfl rfl (sk_69 _) rfl rfl rfl rfl ?_
      refine sEn (i := .return_) rfl (rfl) ?_
      exact ⟨rfl, ⟨(rI_nj (by decide)).trans rI_at, rI_at, (rI_nj (by decide)).trans ((rI_nj (by decide)).trans hA.2.2)⟩, frR_trans frR_w frR_w⟩
    · exfalso; omega
theorem c_advance_d {k p : Nat} (hX : rX S m k p) : sM X 0 106 [.ref 69] S (fun r S' => r = none ∧ rX S' m k p ∧ frR 106 S S') := by
  have hX0 := hX
  obtain ⟨⟨j9, hjm, hj9⟩, _⟩ := hX0
  have hk9 := hX.2.2.2.1
  refine sIni (ls := [some (.ref 69)]) rfl ?_
  refine sL (pc' := 1) (i := .aload_n 0) rfl rfl ?_
  refine sGi (p := 4) rfl rfl (sk_69 _) rfl rfl rfl hX.2.2.1 ?_
  refine sIf_ne (p := 7) rfl rfl ⟨by omega, by omega⟩ (fun c1 => ?_) (fun c1 => ?_)
  · have c1 := c1
    refine sL (pc' := 24) (i := .aload_n 0) rfl rfl ?_
    refine sKs (p := 27) rfl rfl ?_
    refine sPi (z := 266) (p := 30) rfl rfl (sk_69 _) rfl rfl rfl rfl ?_
    refine sEn (i := .return_) rfl (rfl) ?_
    exact ⟨rfl, rX_w hX, frR_w⟩
  · exfalso; omega
theorem c_refuse {i q a : Nat} (hE : rdE S K A C m n sz fn dr Fn nm) (hA : rA S K i) (hi : i ≤ m) (ha : a ≤ m) (hq : 1 ≤ q ∧ q ≤ 5) : sM X 0 105 [.ref 69, .int (iI ((q : Nat) : Int)), .int (iI ((a : Nat) : Int))] S (fun r S' => r = none ∧ rX S' m (rf K q a) (A a) ∧ frR 106 S S') := by
  have hm := hE.1.1
  have hKa := hE.1.2.1 a
  refine sIni (ls := [some (.ref 69), some (.int (iI ((q : Nat) : Int))), some (.int (iI ((a : Nat) : Int)))]) rfl ?_
  refine sL (pc' := 1) (i := .aload_n 0) rfl rfl ?_
  refine sKs (p := 4) rfl rfl ?_
  refine sPi (z := 266) (p := 7) rfl rfl (sk_69 _) rfl rfl rfl rfl ?_
  refine sL (pc' := 8) (i := .aload_n 0) rfl rfl ?_
  refine sGi (p := 11) rfl rfl (sk_69 _) rfl rfl rfl ((rI_nj (by decide)).trans hA.2.2) ?_
  refine sIf_eq (p := 14) rfl rfl ⟨by omega, by omega⟩ (fun c1 => ?_) (fun c1 => ?_)
  · have c1 := c1
    refine sL (pc' := 16) (i := .aload_n 0) rfl rfl ?_
    refine sL (pc' := 17) (i := .iload_n 1) rfl rfl ?_
    refine sKi (p := 18) rfl rfl ?_
    refine sIc_ne (p := 21) rfl rfl ⟨by omega, by omega⟩ ⟨by omega, by omega⟩ (fun c2 => ?_) (fun c2 => ?_)
    · have c2 := c2
      refine sL (pc' := 41) (i := .iload_n 1) rfl rfl ?_
      refine sPi (z := ((q : Nat) : Int)) (p := 44) rfl rfl (sk_69 _) rfl rfl rfl rfl ?_
      refine sL (pc' := 45) (i := .aload_n 0) rfl rfl ?_
      refine sL (pc' := 46) (i := .aload_n 0) rfl rfl ?_
      refine sGc (p := 49) rfl rfl (sk_69 _) rfl rfl rfl ?_
      refine sGc (p := 52) rfl rfl (sk_64 _) rfl rfl rfl ?_
      refine sL (pc' := 53) (i := .iload_n 2) rfl rfl ?_
      refine sAi (p := 54) (i := a) rfl rfl (sk_67 _) (by omega) ⟨by omega, by omega⟩ ((rI_ne (by decide) _).trans ((rI_ne (by decide) _).trans (hE.2.2.1 _ (by omega)).2.1)) ?_
      refine sPi (z := ((A a : Nat) : Int)) (p := 57) rfl rfl (sk_69 _) rfl rfl rfl rfl ?_
      refine sEn (i := .return_) rfl (rfl) ?_
      refine ⟨rfl, ⟨⟨i, hi, (rI_nj (by decide)).trans ((rI_nj (by decide)).trans ((rI_nj (by decide)).trans hA.1))⟩, (rI_nj (by decide)).trans ((rI_nj (by decide)).trans rI_at), (rI_nj (by decide)).trans (rI_at.trans ?_), by unfold rf; split <;> omega, rI_at⟩, frR_trans frR_w (frR_trans frR_w frR_w)⟩
      unfold rf
      first | (rw [if_pos (by omega)]; rfl) | (rw [if_neg (by omega)])
    · have c2 := c2
      refine sL (pc' := 22) (i := .aload_n 0) rfl rfl ?_
      refine sGc (p := 25) rfl rfl (sk_69 _) rfl rfl rfl ?_
      refine sGc (p := 28) rfl rfl (sk_64 _) rfl rfl rfl ?_
      refine sL (pc' := 29) (i := .iload_n 2) rfl rfl ?_
      refine sAi (p := 30) (i := a) rfl rfl (sk_66 _) (by omega) ⟨by omega, by omega⟩ ((rI_ne (by decide) _).trans (hE.2.2.1 _ (by omega)).1) ?_
      refine sKs (p := 33) rfl rfl ?_
      refine sIc_ne (p := 36) rfl rfl ⟨by omega, by omega⟩ ⟨by omega, by omega⟩ (fun c3 => ?_) (fun c3 => ?_)
      · have c3 := c3
        refine sL (pc' := 41) (i := .iload_n 1) rfl rfl ?_
        refine sPi (z := ((q : Nat) : Int)) (p := 44) rfl rfl (sk_69 _) rfl rfl rfl rfl ?_
        refine sL (pc' := 45) (i := .aload_n 0) rfl rfl ?_
        refine sL (pc' := 46) (i := .aload_n 0) rfl rfl ?_
        refine sGc (p := 49) rfl rfl (sk_69 _) rfl rfl rfl ?_
        refine sGc (p := 52) rfl rfl (sk_64 _) rfl rfl rfl ?_
        refine sL (pc' := 53) (i := .iload_n 2) rfl rfl ?_
        refine sAi (p := 54) (i := a) rfl rfl (sk_67 _) (by omega) ⟨by omega, by omega⟩ ((rI_ne (by decide) _).trans ((rI_ne (by decide) _).trans (hE.2.2.1 _ (by omega)).2.1)) ?_
        refine sPi (z := ((A a : Nat) : Int)) (p := 57) rfl rfl (sk_69 _) rfl rfl rfl rfl ?_
        refine sEn (i := .return_) rfl (rfl) ?_
        refine ⟨rfl, ⟨⟨i, hi, (rI_nj (by decide)).trans ((rI_nj (by decide)).trans ((rI_nj (by decide)).trans hA.1))⟩, (rI_nj (by decide)).trans ((rI_nj (by decide)).trans rI_at), (rI_nj (by decide)).trans (rI_at.trans ?_), by unfold rf; split <;> omega, rI_at⟩, frR_trans frR_w (frR_trans frR_w frR_w)⟩
        unfold rf
        first | (rw [if_pos (by omega)]; rfl) | (rw [if_neg (by omega)])
      · have c3 := c3
        refine sKi (p := 37) rfl rfl ?_
        refine sL (i := .goto 4) rfl rfl ?_
        refine sPi (z := 1) (p := 44) rfl rfl (sk_69 _) rfl rfl rfl rfl ?_
        refine sL (pc' := 45) (i := .aload_n 0) rfl rfl ?_
        refine sL (pc' := 46) (i := .aload_n 0) rfl rfl ?_
        refine sGc (p := 49) rfl rfl (sk_69 _) rfl rfl rfl ?_
        refine sGc (p := 52) rfl rfl (sk_64 _) rfl rfl rfl ?_
        refine sL (pc' := 53) (i := .iload_n 2) rfl rfl ?_
        refine sAi (p := 54) (i := a) rfl rfl (sk_67 _) (by omega) ⟨by omega, by omega⟩ ((rI_ne (by decide) _).trans ((rI_ne (by decide) _).trans (hE.2.2.1 _ (by omega)).2.1)) ?_
        refine sPi (z := ((A a : Nat) : Int)) (p := 57) rfl rfl (sk_69 _) rfl rfl rfl rfl ?_
        refine sEn (i := .return_) rfl (rfl) ?_
        refine ⟨rfl, ⟨⟨i, hi, (rI_nj (by decide)).trans ((rI_nj (by decide)).trans ((rI_nj (by decide)).trans hA.1))⟩, (rI_nj (by decide)).trans ((rI_nj (by decide)).trans rI_at), (rI_nj (by decide)).trans (rI_at.trans ?_), by unfold rf; split <;> omega, rI_at⟩, frR_trans frR_w (frR_trans frR_w frR_w)⟩
        unfold rf
        first | (rw [if_pos (by omega)]; rfl) | (rw [if_neg (by omega)])
  · exact absurd c1 (by decide)
theorem c_refuse_d {k p : Nat} {x y : Int} (hX : rX S m k p) : sM X 0 105 [.ref 69, .int (iI x), .int (iI y)] S (fun r S' => r = none ∧ rX S' m k p ∧ frR 106 S S') := by
  have hX0 := hX
  obtain ⟨⟨j9, hjm, hj9⟩, _⟩ := hX0
  have hk9 := hX.2.2.2.1
  refine sIni (ls := [some (.ref 69), some (.int (iI x)), some (.int (iI y))]) rfl ?_
  refine sL (pc' := 1) (i := .aload_n 0) rfl rfl ?_
  refine sKs (p := 4) rfl rfl ?_
  refine sPi (z := 266) (p := 7) rfl rfl (sk_69 _) rfl rfl rfl rfl ?_
  refine sL (pc' := 8) (i := .aload_n 0) rfl rfl ?_
  refine sGi (p := 11) rfl rfl (sk_69 _) rfl rfl rfl ((rI_nj (by decide)).trans hX.2.2.1) ?_
  refine sIf_eq (p := 14) rfl rfl ⟨by omega, by omega⟩ (fun c1 => ?_) (fun c1 => ?_)
  · exfalso; omega
  · have c1 := c1
    refine sEn (i := .return_) rfl (rfl) ?_
    exact ⟨rfl, rX_w hX, frR_w⟩
theorem c_expect {i w : Nat} (hE : rdE S K A C m n sz fn dr Fn nm) (hA : rA S K i) (hi : i < m) (hw : K i = w) (hw2 : w < 256) : sM X 1 104 [.ref 69, .int (iI ((w : Nat) : Int))] S (fun r S' => r = none ∧ rA S' K (i + 1) ∧ frR 106 S S') := by
  refine sIni (ls := [some (.ref 69), some (.int (iI ((w : Nat) : Int)))]) rfl ?_
  refine sL (pc' := 1) (i := .aload_n 0) rfl rfl ?_
  refine sGi (p := 4) rfl rfl (sk_69 _) rfl rfl rfl hA.2.1 ?_
  refine sL (pc' := 5) (i := .iload_n 1) rfl rfl ?_
  refine sIc_ne (p := 8) rfl rfl ⟨by omega, by omega⟩ ⟨by omega, by omega⟩ (fun c1 => ?_) (fun c1 => ?_)
  · exfalso; omega
  · have c1 := c1
    refine sL (pc' := 9) (i := .aload_n 0) rfl rfl ?_
    refine sCvQ (p := 12) (as := []) rfl rfl rfl rfl (by decide) (Nat.le_of_ble_eq_true rfl) rfl (Nat.le_of_ble_eq_true rfl) (sk_69 _) rfl (by omega) (c_advance hE hA (by omega)) ?_
    rintro _ S1 ⟨rfl, hA1, hf1⟩
    refine sL (i := .goto 12) rfl rfl ?_
    refine sEn (i := .return_) rfl (rfl) ?_
    exact ⟨rfl, hA1, hf1⟩
theorem c_expect_n {i w : Nat} (hE : rdE S K A C m n sz fn dr Fn nm) (hA : rA S K i) (hi : i ≤ m) (hw : K i ≠ w) (hw2 : w < 256) : sM X 1 104 [.ref 69, .int (iI ((w : Nat) : Int))] S (fun r S' => r = none ∧ rX S' m (rf K 2 i) (A i) ∧ frR 106 S S') := by
  have hKi := hE.1.2.1 i
  refine sIni (ls := [some (.ref 69), some (.int (iI ((w : Nat) : Int)))]) rfl ?_
  refine sL (pc' := 1) (i := .aload_n 0) rfl rfl ?_
  refine sGi (p := 4) rfl rfl (sk_69 _) rfl rfl rfl hA.2.1 ?_
  refine sL (pc' := 5) (i := .iload_n 1) rfl rfl ?_
  refine sIc_ne (p := 8) rfl rfl ⟨by omega, by omega⟩ ⟨by omega, by omega⟩ (fun c1 => ?_) (fun c1 => ?_)
  · have c1 := c1
    refine sL (pc' := 16) (i := .aload_n 0) rfl rfl ?_
    refine sKi (p := 17) rfl rfl ?_
    refine sL (pc' := 18) (i := .aload_n 0) rfl rfl ?_
    refine sGi (p := 21) rfl rfl (sk_69 _) rfl rfl rfl hA.1 ?_
    refine sCvQ (p := 24) (as := [_, _]) rfl rfl rfl rfl (by decide) (Nat.le_of_ble_eq_true rfl) rfl (Nat.le_of_ble_eq_true rfl) (sk_69 _) rfl (by omega) (c_refuse hE hA hi hi ⟨by decide, by decide⟩) ?_
    rintro _ S1 ⟨rfl, hX1, hf1⟩
    refine sEn (i := .return_) rfl (rfl) ?_
    exact ⟨rfl, hX1, hf1⟩
  · exfalso; omega
theorem c_expect_d {k p w : Nat} (hX : rX S m k p) (hw2 : w < 256) : sM X 1 104 [.ref 69, .int (iI ((w : Nat) : Int))] S (fun r S' => r = none ∧ rX S' m k p ∧ frR 106 S S') := by
  have hX0 := hX
  obtain ⟨⟨j9, hjm, hj9⟩, _⟩ := hX0
  have hk9 := hX.2.2.2.1
  refine sIni (ls := [some (.ref 69), some (.int (iI ((w : Nat) : Int)))]) rfl ?_
  refine sL (pc' := 1) (i := .aload_n 0) rfl rfl ?_
  refine sGi (p := 4) rfl rfl (sk_69 _) rfl rfl rfl hX.2.1 ?_
  refine sL (pc' := 5) (i := .iload_n 1) rfl rfl ?_
  refine sIc_ne (p := 8) rfl rfl ⟨by omega, by omega⟩ ⟨by omega, by omega⟩ (fun c1 => ?_) (fun c1 => ?_)
  · have c1 := c1
    refine sL (pc' := 16) (i := .aload_n 0) rfl rfl ?_
    refine sKi (p := 17) rfl rfl ?_
    refine sL (pc' := 18) (i := .aload_n 0) rfl rfl ?_
    refine sGi (p := 21) rfl rfl (sk_69 _) rfl rfl rfl hj9 ?_
    refine sCvQ (p := 24) (as := [_, _]) rfl rfl rfl rfl (by decide) (Nat.le_of_ble_eq_true rfl) rfl (Nat.le_of_ble_eq_true rfl) (sk_69 _) rfl (by omega) (c_refuse_d hX) ?_
    rintro _ S1 ⟨rfl, hX1, hf1⟩
    refine sEn (i := .return_) rfl (rfl) ?_
    exact ⟨rfl, hX1, hf1⟩
  · exfalso; omega
def ivt (T : Nat) (f : Nat → Bool) : Nat → Bool := fun r => jn 5 (evr T r) (f r) && decide (r < T)
theorem c_invert {a : Nat} {f : Nat → Bool} (ha : a < 106) (hev : rowS S 51 0 (evr (pr sz n))) (hf : rowS S (71 + a) 0 f) : sM X 2 102 [.ref 69, .int (iI ((a : Nat) : Int))] S (sV none (wRw S (71 + a) 0 (ivt (pr sz n) f))) := by
  refine sIni (ls := [some (.ref 69), some (.int (iI ((a : Nat) : Int)))]) rfl ?_
  refine sL (pc' := 1) (i := .aload_n 0) rfl rfl ?_
  refine sGc (p := 4) rfl rfl (sk_69 _) rfl rfl rfl ?_
  refine sL (pc' := 5) (i := .aload_n 0) rfl rfl ?_
  refine sL (pc' := 6) (i := .iload_n 1) rfl rfl ?_
  refine sCv (p := 9) (as := [_]) rfl rfl rfl rfl (by decide) (Nat.le_of_ble_eq_true rfl) rfl (Nat.le_of_ble_eq_true rfl) (sk_69 _) rfl (by omega) (c_slot ha) ?_
  refine sKi (p := 10) rfl rfl ?_
  refine sL (pc' := 11) (i := .aload_n 0) rfl rfl ?_
  refine sGc (p := 14) rfl rfl (sk_69 _) rfl rfl rfl ?_
  refine sGc (p := 17) rfl rfl (sk_7 _) rfl rfl rfl ?_
  refine sL (pc' := 18) (i := .aload_n 0) rfl rfl ?_
  refine sL (pc' := 19) (i := .iload_n 1) rfl rfl ?_
  refine sCv (p := 22) (as := [_]) rfl rfl rfl rfl (by decide) (Nat.le_of_ble_eq_true rfl) rfl (Nat.le_of_ble_eq_true rfl) (sk_69 _) rfl (by omega) (c_slot ha) ?_
  refine sCv (p := 25) (as := [_, _, _, _]) rfl rfl rfl rfl (by decide) (Nat.le_of_ble_eq_true rfl) rfl (Nat.le_of_ble_eq_true rfl) (sk_7 _) rfl (by omega) (c_combine (op := 5) (sk_slots _ ha) (sk_51 _) (sk_slots _ ha) hev hf hev (by omega) (by decide)) ?_
  refine sEn (i := .return_) rfl (rfl) ?_
  exact ⟨rfl, rfl⟩
end RD
