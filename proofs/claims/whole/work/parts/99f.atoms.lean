/-! ===== the class's reader: constants, names, atoms ===== -/
def oQ (K A : Nat → Nat) (m a : Nat) (R : Nat × Nat × (Nat → Bool)) (S : ST) (r : Option Value) (S' : ST) : Prop := r = none ∧ frR a S S' ∧ rS S' K A m R.1 R.2.1 ∧ (R.1 = 0 → rowS S' (71 + a) 0 R.2.2)
def xQ (m a k p : Nat) (S : ST) (r : Option Value) (S' : ST) : Prop := r = none ∧ frR a S S' ∧ rX S' m k p
def pCon (K : Nat → Nat) (T i : Nat) : Nat × Nat × (Nat → Bool) := (0, i + 1, if K i = 260 then ivt T (fun _ => false) else fun _ => false)
def pNam (C : Nat → Int64) (N : Nat) (Fn : Nat → Nat → Bool) (nm : Nat → Int64) (i : Nat) : Nat × Nat × (Nat → Bool) := if fnd nm (C i) N 0 = -1 then (3, i, fun _ => false) else (0, i + 1, Fn (fnd nm (C i) N 0).toNat)
def atm (n : Nat) (sz : Nat → Nat) (x z : Int) : Nat → Bool := mk (fun _ => false) (fun r => decide (vlI n sz x r = z)) (pr sz n)
def pAtm (K : Nat → Nat) (C : Nat → Int64) (n : Nat) (sz : Nat → Nat) (i : Nat) : Nat × Nat × (Nat → Bool) :=
  if (pVar K C n i).1 ≠ 0 then ((pVar K C n i).1, (pVar K C n i).2.1, fun _ => false)
  else if K (pVar K C n i).2.1 = 61 then ((pVal K C sz (pVar K C n i).2.2.toNat ((pVar K C n i).2.1 + 1)).1, (pVal K C sz (pVar K C n i).2.2.toNat ((pVar K C n i).2.1 + 1)).2.1, atm n sz (pVar K C n i).2.2 (pVal K C sz (pVar K C n i).2.2.toNat ((pVar K C n i).2.1 + 1)).2.2)
  else if sz (pVar K C n i).2.2.toNat ≠ 2 then (4, i, fun _ => false) else (0, (pVar K C n i).2.1, atm n sz (pVar K C n i).2.2 1)
theorem pVar_v {K : Nat → Nat} {C : Nat → Int64} {n i : Nat} (h : (pVar K C n i).1 = 0) : (0 ≤ (pVar K C n i).2.2 ∧ (pVar K C n i).2.2 < n) ∧ (pVar K C n i).2.1 = i + 2 ∧ K i = 35 ∧ K (i + 1) = 259 := by
  unfold pVar at h ⊢
  by_cases q1 : K i = 35
  · rw [if_neg (fun z => z q1)] at h ⊢
    by_cases q2 : K (i + 1) = 259
    · rw [if_neg (fun z => z q2)] at h ⊢
      by_cases q3 : 0 ≤ cI (C (i + 1)) ∧ cI (C (i + 1)) < n
      · rw [if_neg (fun z => z q3)]
        exact ⟨q3, rfl, q1, q2⟩
      · rw [if_pos q3] at h
        cases h
    · rw [if_pos q2] at h
      exact absurd h (rf_nz (by decide))
  · rw [if_pos q1] at h
    exact absurd h (rf_nz (by decide))
section RC
variable {X : List Int32} {S : ST} {K A : Nat → Nat} {C : Nat → Int64} {m n fn dr : Nat} {sz : Nat → Nat} {Fn : Nat → Nat → Bool} {nm : Nat → Int64}
theorem fnd_b {x : Int64} : ∀ N i, fnd nm x N i = -1 ∨ (((i : Nat) : Int) ≤ fnd nm x N i ∧ fnd nm x N i < ((i + N : Nat) : Int) ∧ nm (fnd nm x N i).toNat = x)
  | 0, _ => Or.inl rfl
  | N + 1, i => by
    have e : fnd nm x (N + 1) i = if nm i = x then ((i : Nat) : Int) else fnd nm x N (i + 1) := rfl
    rw [e]
    by_cases c : nm i = x
    · rw [if_pos c]
      exact Or.inr ⟨Int.le_refl _, by omega, c⟩
    · rw [if_neg c]
      rcases fnd_b N (i + 1) with h | ⟨h1, h2, h3⟩
      · exact Or.inl h
      · exact Or.inr ⟨by omega, by omega, h3⟩
theorem rA_row {a i : Nat} {f : Nat → Bool} (h : rA S K i) : rA (wRw S a 0 f) K i := h
theorem rX_row {a k p : Nat} {f : Nat → Bool} (h : rX S m k p) : rX (wRw S a 0 f) m k p := h
theorem c_readConstant {i a : Nat} (hE : rdE S K A C m n sz fn dr Fn nm) (hA : rA S K i) (hi : i < m) (ha : a < 106) : sM X 3 96 [.ref 69, .int (iI ((a : Nat) : Int))] S (oQ K A m a (pCon K (pr sz n) i) S) := by
  have hm := hE.1.1
  have hKi := hE.1.2.1 i
  have hf0 : frR a S (wRw S (71 + a) 0 (fun _ => false)) := frR_row (Nat.le_refl _) ha
  have hf9 : frR a (wRw S (71 + a) 0 (fun _ => false)) (wRw (wRw S (71 + a) 0 (fun _ => false)) (71 + a) 0 (ivt (pr sz n) (fun _ => false))) := frR_row (Nat.le_refl _) ha
  have hE0 := rdE_fr hE hf0
  have hE9 := rdE_fr hE0 hf9
  unfold pCon
  refine sIni (ls := [some (.ref 69), some (.int (iI ((a : Nat) : Int)))]) rfl ?_
  refine sL (pc' := 1) (i := .aload_n 0) rfl rfl ?_
  refine sL (pc' := 2) (i := .iload_n 1) rfl rfl ?_
  refine sCv (p := 5) (as := [_]) rfl rfl rfl rfl (by decide) (Nat.le_of_ble_eq_true rfl) rfl (Nat.le_of_ble_eq_true rfl) (sk_69 _) rfl (by omega) (c_slot ha) ?_
  refine sKj0 (p := 6) rfl rfl rfl ?_
  refine sCs (p := 9) (as := [_, _]) rfl rfl rfl rfl (by decide) (Nat.le_of_ble_eq_true rfl) rfl (Nat.le_of_ble_eq_true rfl) rfl (by omega) (c_fill0 (sk_slots _ ha)) ?_
  refine sL (pc' := 10) (i := .aload_n 0) rfl rfl ?_
  refine sGi (p := 13) rfl rfl (sk_69 _) rfl rfl rfl hA.2.1 ?_
  refine sKs (p := 16) rfl rfl ?_
  refine sIc_ne (p := 19) rfl rfl ⟨by omega, by omega⟩ ⟨by omega, by omega⟩ (fun c1 => ?_) (fun c1 => ?_)
  · have c1 := c1
    refine sL (pc' := 25) (i := .aload_n 0) rfl rfl ?_
    refine sCvQ (p := 28) (as := []) rfl rfl rfl rfl (by decide) (Nat.le_of_ble_eq_true rfl) rfl (Nat.le_of_ble_eq_true rfl) (sk_69 _) rfl (by omega) (c_advance (i := i) hE0 hA hi) ?_
    rintro _ S1 ⟨rfl, hA1, hf1⟩
    refine sEn (i := .return_) rfl (rfl) ?_
    rw [if_neg (by omega)]
    exact ⟨rfl, frR_trans hf0 (frR_le hf1 (by omega)), Or.inl ⟨rfl, hi, hA1⟩, fun _ => rowS_fr hf1 (by omega) (rowS_wRw _ _ _ _)⟩
  · have c1 := c1
    refine sL (pc' := 20) (i := .aload_n 0) rfl rfl ?_
    refine sL (pc' := 21) (i := .iload_n 1) rfl rfl ?_
    refine sCv (p := 24) (as := [_]) rfl rfl rfl rfl (by decide) (Nat.le_of_ble_eq_true rfl) rfl (Nat.le_of_ble_eq_true rfl) (sk_69 _) rfl (by omega) (c_invert (S := (wRw S (71 + a) 0 (fun _ => false))) ha hE0.2.2.2.2.1 (rowS_wRw _ _ _ _)) ?_
    refine sL (pc' := 25) (i := .aload_n 0) rfl rfl ?_
    refine sCvQ (p := 28) (as := []) rfl rfl rfl rfl (by decide) (Nat.le_of_ble_eq_true rfl) rfl (Nat.le_of_ble_eq_true rfl) (sk_69 _) rfl (by omega) (c_advance (i := i) hE9 hA hi) ?_
    rintro _ S1 ⟨rfl, hA1, hf1⟩
    refine sEn (i := .return_) rfl (rfl) ?_
    rw [if_pos (by omega)]
    exact ⟨rfl, frR_trans (frR_trans hf0 hf9) (frR_le hf1 (by omega)), Or.inl ⟨rfl, hi, hA1⟩, fun _ => rowS_fr hf1 (by omega) (rowS_wRw _ _ _ _)⟩
theorem c_readKnownName {i a : Nat} (hE : rdE S K A C m n sz fn dr Fn nm) (hA : rA S K i) (hi : i < m) (ha : a < 106) : sM X 2 97 [.ref 69, .int (iI ((a : Nat) : Int))] S (oQ K A m a (pNam C (fn + dr) Fn nm i) S) := by
  have hm := hE.1.1
  obtain ⟨_, _, hkk, hvC, hev, hfn, hdr, h40, hF, hnm⟩ := hE
  have hE : rdE S K A C m n sz fn dr Fn nm := ⟨‹_›, ‹_›, hkk, hvC, hev, hfn, hdr, h40, hF, hnm⟩
  have hb := fnd_b (nm := nm) (x := C i) (fn + dr) 0
  unfold pNam
  have hFind : sM X 0 64 [.ref 7, .long (C i)] S (sV (some (.int (iI (fnd nm (C i) (fn + dr) 0)))) S) := c_findName hfn hdr h40 hnm
  generalize fnd nm (C i) (fn + dr) 0 = fz at *
  refine sIni (ls := [some (.ref 69), some (.int (iI ((a : Nat) : Int))), none]) rfl ?_
  refine sL (pc' := 1) (i := .aload_n 0) rfl rfl ?_
  refine sGc (p := 4) rfl rfl (sk_69 _) rfl rfl rfl ?_
  refine sL (pc' := 5) (i := .aload_n 0) rfl rfl ?_
  refine sGc (p := 8) rfl rfl (sk_69 _) rfl rfl rfl ?_
  refine sGc (p := 11) rfl rfl (sk_64 _) rfl rfl rfl ?_
  refine sL (pc' := 12) (i := .aload_n 0) rfl rfl ?_
  refine sGi (p := 15) rfl rfl (sk_69 _) rfl rfl rfl hA.1 ?_
  refine sAl (p := 16) (i := i) rfl rfl (sk_68 _) (by omega) ⟨by omega, by omega⟩ (hkk _ (by omega)).2.2 ?_
  refine sCv (p := 19) (as := [_]) rfl rfl rfl rfl (by decide) (Nat.le_of_ble_eq_true rfl) rfl (Nat.le_of_ble_eq_true rfl) (sk_7 _) rfl (by omega) (hFind) ?_
  refine sL (pc' := 20) (i := .istore_n 2) (ls' := [some (.ref 69), some (.int (iI ((a : Nat) : Int))), some (.int (iI fz))]) rfl rfl ?_
  refine sL (pc' := 21) (i := .iload_n 2) rfl rfl ?_
  refine sKi (p := 22) rfl rfl ?_
  refine sIc_ne (p := 25) rfl rfl ⟨by omega, by omega⟩ ⟨by omega, by omega⟩ (fun c1 => ?_) (fun c1 => ?_)
  · have c1 := c1
    obtain ⟨f9, rfl⟩ : ∃ f9 : Nat, fz = ((f9 : Nat) : Int) := ⟨fz.toNat, by omega⟩
    have hfr : frR a S (wRw S (71 + a) 0 (Fn f9)) := frR_row (Nat.le_refl _) ha
    refine sL (pc' := 38) (i := .aload_n 0) rfl rfl ?_
    refine sGc (p := 41) rfl rfl (sk_69 _) rfl rfl rfl ?_
    refine sL (pc' := 42) (i := .iload_n 2) rfl rfl ?_
    refine sCv (p := 45) (as := [_]) rfl rfl rfl rfl (by decide) (Nat.le_of_ble_eq_true rfl) rfl (Nat.le_of_ble_eq_true rfl) (sk_7 _) rfl (by omega) (c_row (i := f9) (by omega)) ?_
    refine sKi (p := 46) rfl rfl ?_
    refine sL (pc' := 47) (i := .aload_n 0) rfl rfl ?_
    refine sL (pc' := 48) (i := .iload_n 1) rfl rfl ?_
    refine sCv (p := 51) (as := [_]) rfl rfl rfl rfl (by decide) (Nat.le_of_ble_eq_true rfl) rfl (Nat.le_of_ble_eq_true rfl) (sk_69 _) rfl (by omega) (c_slot ha) ?_
    refine sKi (p := 52) rfl rfl ?_
    refine sKb (p := 54) rfl rfl ?_
    refine sAcL (p := 57) (n := 16) (dp := 0) (sp := 0) rfl rfl (sk_rows _ (by omega)) (sk_slots _ ha) rfl rfl rfl (by omega) (by omega) ⟨by omega, by omega⟩ (by decide) ?_
    rw [cpy_row (hF f9 (by omega))]
    refine sL (pc' := 58) (i := .aload_n 0) rfl rfl ?_
    refine sCvQ (p := 61) (as := []) rfl rfl rfl rfl (by decide) (Nat.le_of_ble_eq_true rfl) rfl (Nat.le_of_ble_eq_true rfl) (sk_69 _) rfl (by omega) (c_advance (rdE_fr hE hfr) (rA_row hA) hi) ?_
    rintro _ S2 ⟨rfl, hA2, hf2⟩
    refine sEn (i := .return_) rfl (rfl) ?_
    rw [if_neg (by omega)]
    exact ⟨rfl, frR_trans hfr (frR_le hf2 (by omega)), Or.inl ⟨rfl, hi, hA2⟩, fun _ => rowS_fr hf2 (by omega) (rowS_wRw _ _ _ _)⟩
  · have c1 := c1
    refine sL (pc' := 26) (i := .aload_n 0) rfl rfl ?_
    refine sKi (p := 27) rfl rfl ?_
    refine sL (pc' := 28) (i := .aload_n 0) rfl rfl ?_
    refine sGi (p := 31) rfl rfl (sk_69 _) rfl rfl rfl hA.1 ?_
    refine sCvQ (p := 34) (as := [_, _]) rfl rfl rfl rfl (by decide) (Nat.le_of_ble_eq_true rfl) rfl (Nat.le_of_ble_eq_true rfl) (sk_69 _) rfl (by omega) (c_refuse hE hA (by omega) (show i ≤ m by omega) ⟨by decide, by decide⟩) ?_
    rintro _ S1 ⟨rfl, hX1, hf1⟩
    refine sL (i := .goto 23) rfl rfl ?_
    refine sL (pc' := 58) (i := .aload_n 0) rfl rfl ?_
    refine sCvQ (p := 61) (as := []) rfl rfl rfl rfl (by decide) (Nat.le_of_ble_eq_true rfl) rfl (Nat.le_of_ble_eq_true rfl) (sk_69 _) rfl (by omega) (c_advance_d hX1) ?_
    rintro _ S2 ⟨rfl, hX2, hf2⟩
    refine sEn (i := .return_) rfl (rfl) ?_
    rw [if_pos (by omega)]
    exact ⟨rfl, frR_le (frR_trans hf1 hf2) (by omega), Or.inr ⟨(show (3 : Nat) ≠ 0 by decide), by rw [show rf K 3 i = 3 from if_neg (by omega)] at hX2; exact hX2⟩, fun z => by cases z⟩
end RC
