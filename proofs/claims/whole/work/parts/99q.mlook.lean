/-! ===== the reference's tokens: small methods ===== -/
def sb (c : Nat) : Int := if c < 128 then (c : Int) else (c : Int) - 256
theorem sb_and {c : Nat} (h : c < 256) : iI (sb c) &&& iI 255 = iI ((c : Nat) : Int) := by
  have h1 := iI_and (a := sb c) 8 (by decide)
  refine Eq.trans h1 (congrArg iI ?_)
  show sb c % 256 = _
  unfold sb
  split <;> omega
theorem sb_rg {c : Nat} (h : c < 256) : -128 ≤ sb c ∧ sb c ≤ 127 := by
  unfold sb
  split <;> omega
/-- the reference's tape while it is read -/
def mt (S : ST) (y : Nat → Nat) (s : Nat) : Prop := s ≤ 400 ∧ (∀ j, y j < 256) ∧ SI S 179 22 = ((s : Nat) : Int) ∧ ∀ j, j < s → SI S 188 j = sb (y j)
theorem mt_w {S : ST} {y : Nat → Nat} {s c k : Nat} {z : Int} (h : mt S y s) (hc : c ≠ 188 ∧ (c ≠ 179 ∨ k ≠ 22)) : mt (wI S c k z) y s := by
  refine ⟨h.1, h.2.1, ?_, fun j hj => (rI_ne (fun q => hc.1 q.symm) _).trans (h.2.2.2 j hj)⟩
  rw [SI_wI, if_neg (by omega)]
  exact h.2.2.1
section MT
variable {X : List Int32} {S : ST} {y : Nat → Nat} {s a : Nat}
theorem bA_b (hy : ∀ j, y j < 256) (p : Nat) : -1 ≤ bA y s p ∧ bA y s p ≤ 255 := by
  have := hy p
  unfold bA
  split <;> omega
theorem m_look {p : Nat} (ht : mt S y s) (hp : p < 1000) : sM X 0 191 [.ref 179, .int (iI ((p : Nat) : Int))] S (sV (some (.int (iI (bA y s p)))) S) := by
  have hs := ht.1
  refine sIni (ls := [some (.ref 179), some (.int (iI ((p : Nat) : Int)))]) rfl ?_
  refine sL (pc' := 1) (i := .iload_n 1) rfl rfl ?_
  refine sL (pc' := 2) (i := .aload_n 0) rfl rfl ?_
  refine sGi (p := 5) rfl rfl (sk_179 _) rfl rfl rfl ht.2.2.1 ?_
  refine sIc_ge (p := 8) rfl rfl ⟨by omega, by omega⟩ ⟨by omega, by omega⟩ (fun c1 => ?_) (fun c1 => ?_)
  · have c1 := c1
    refine sKi (p := 22) rfl rfl ?_
    refine sEn (i := .ireturn) rfl (rfl) ?_
    exact ⟨congrArg (fun z => some (Value.int (iI z))) (by unfold bA; rw [if_neg (by omega)]), rfl⟩
  · have c1 := c1
    refine sL (pc' := 9) (i := .aload_n 0) rfl rfl ?_
    refine sGc (p := 12) rfl rfl (sk_179 _) rfl rfl rfl ?_
    refine sL (pc' := 13) (i := .iload_n 1) rfl rfl ?_
    refine sAb (p := 14) (i := p) rfl rfl (sk_188 _) (Or.inr rfl) (by omega) ⟨by omega, by omega⟩ (ht.2.2.2 _ (by omega)) ?_
    refine sKs (p := 17) rfl rfl ?_
    refine sL (pc' := 18) (i := .iand) rfl rfl ?_
    rw [sb_and (ht.2.1 p)]
    refine sL (i := .goto 4) rfl rfl ?_
    refine sEn (i := .ireturn) rfl (rfl) ?_
    exact ⟨congrArg (fun z => some (Value.int (iI z))) (by unfold bA; rw [if_pos (by omega)]), rfl⟩
theorem m_isLetter {c : Int} (hc : rg c) : sM X 1 192 [.int (iI c)] S (sV (some (.int (iI (bI (decide (97 ≤ c ∧ c ≤ 122)))))) S) := by
  have c1 := hc.1
  have c2 := hc.2
  refine sIni (ls := [some (.int (iI c))]) rfl ?_
  refine sL (pc' := 1) (i := .iload_n 0) rfl rfl ?_
  refine sI2l (p := 2) rfl rfl ⟨by omega, by omega⟩ ?_
  refine sK2 (z := 97) (p := 5) rfl rfl rfl ?_
  refine sK2 (z := 122) (p := 8) rfl rfl rfl ?_
  refine sCs (p := 11) (as := [_, _, _]) rfl rfl rfl rfl (by decide) (Nat.le_of_ble_eq_true rfl) rfl (Nat.le_of_ble_eq_true rfl) rfl (by omega) (m_in (x := c) (y := 97) (z := 122) ⟨by omega, by omega⟩ ⟨by omega, by omega⟩ ⟨by omega, by omega⟩) ?_
  refine sEz rfl rfl ?_
  exact ⟨rfl, rfl⟩
theorem m_isDigit {c : Int} (hc : rg c) : sM X 1 193 [.int (iI c)] S (sV (some (.int (iI (bI (decide (48 ≤ c ∧ c ≤ 57)))))) S) := by
  have c1 := hc.1
  have c2 := hc.2
  refine sIni (ls := [some (.int (iI c))]) rfl ?_
  refine sL (pc' := 1) (i := .iload_n 0) rfl rfl ?_
  refine sI2l (p := 2) rfl rfl ⟨by omega, by omega⟩ ?_
  refine sK2 (z := 48) (p := 5) rfl rfl rfl ?_
  refine sK2 (z := 57) (p := 8) rfl rfl rfl ?_
  refine sCs (p := 11) (as := [_, _, _]) rfl rfl rfl rfl (by decide) (Nat.le_of_ble_eq_true rfl) rfl (Nat.le_of_ble_eq_true rfl) rfl (by omega) (m_in (x := c) (y := 48) (z := 57) ⟨by omega, by omega⟩ ⟨by omega, by omega⟩ ⟨by omega, by omega⟩) ?_
  refine sEz rfl rfl ?_
  exact ⟨rfl, rfl⟩
theorem m_bad_a {k p : Int} (h : SI S 179 14 = 0) : sM X 0 194 [.ref 179, .int (iI k), .int (iI p)] S (sV none (wI (wI S 179 14 k) 179 28 p)) := by
  refine sIni (ls := [some (.ref 179), some (.int (iI k)), some (.int (iI p))]) rfl ?_
  refine sL (pc' := 1) (i := .aload_n 0) rfl rfl ?_
  refine sGi (p := 4) rfl rfl (sk_179 _) rfl rfl rfl h ?_
  refine sIf_ne (p := 7) rfl rfl ⟨by omega, by omega⟩ (fun c1 => ?_) (fun c1 => ?_)
  · exact absurd c1 (by decide)
  · have c1 := c1
    refine sL (pc' := 8) (i := .aload_n 0) rfl rfl ?_
    refine sL (pc' := 9) (i := .iload_n 1) rfl rfl ?_
    refine sPi (z := k) (p := 12) rfl rfl (sk_179 _) rfl rfl rfl rfl ?_
    refine sL (pc' := 13) (i := .aload_n 0) rfl rfl ?_
    refine sL (pc' := 14) (i := .iload_n 2) rfl rfl ?_
    refine sPi (z := p) (p := 17) rfl rfl (sk_179 _) rfl rfl rfl rfl ?_
    refine sEn (i := .return_) rfl (rfl) ?_
    exact ⟨rfl, rfl⟩
theorem m_bad_d {k p z : Int} (h : SI S 179 14 = z) (hz : 1 ≤ z ∧ z ≤ 5) : sM X 0 194 [.ref 179, .int (iI k), .int (iI p)] S (sV none S) := by
  refine sIni (ls := [some (.ref 179), some (.int (iI k)), some (.int (iI p))]) rfl ?_
  refine sL (pc' := 1) (i := .aload_n 0) rfl rfl ?_
  refine sGi (p := 4) rfl rfl (sk_179 _) rfl rfl rfl h ?_
  refine sIf_ne (p := 7) rfl rfl ⟨by omega, by omega⟩ (fun c1 => ?_) (fun c1 => ?_)
  · have c1 := c1
    refine sEn (i := .return_) rfl (rfl) ?_
    exact ⟨rfl, rfl⟩
  · exfalso; omega
theorem bA_B {p : Nat} (hy : ∀ j, y j < 256) : (bA y s p = 32 ∨ bA y s p = 10) ↔ (p < s ∧ isB (y p) = true) := by
  unfold bA isB
  by_cases c : p < s
  · rw [if_pos c]
    constructor
    · intro h
      exact ⟨c, decide_eq_true (by omega)⟩
    · intro h
      have := of_decide_eq_true h.2
      omega
  · rw [if_neg c]
    constructor
    · intro h
      omega
    · intro h
      exact absurd h.1 c
theorem m_skip {L : Nat} (ht : mt S y s) (hp : SI S 179 23 = ((a : Nat) : Int)) (hb : a + L ≤ s) (hin : ∀ j, j < L → isB (y (a + j)) = true) (hout : a + L < s → isB (y (a + L)) = false) : sM X 1 195 [.ref 179] S (sV none (wI S 179 23 ((a + L : Nat) : Int))) := by
  have hs := ht.1
  refine sIni (ls := [some (.ref 179)]) rfl ?_
  refine sSh (T := (wI S 179 23 ((a + 0 : Nat) : Int))) (congrArg sH (wI_self hp).symm) ?_
  refine sIt (A := fun j => [some (.ref 179)]) (B := fun j => (wI S 179 23 ((a + j : Nat) : Int))) (fun _ => True) L True.intro (fun j hi0 hI0 ih0 => ?_) (fun hI0 => ?_)
  · have hi0 := hi0
    have hq := (bA_B (y := y) (s := s) (p := a + j) ht.2.1).mpr ⟨by omega, hin j hi0⟩
    have hbb := bA_b (y := y) (s := s) ht.2.1 (a + j)
    refine sL (pc' := 1) (i := .aload_n 0) rfl rfl ?_
    refine sL (pc' := 2) (i := .aload_n 0) rfl rfl ?_
    refine sGi (p := 5) rfl rfl (sk_179 _) rfl rfl rfl (rI_at (S := S) (a := 179) (i := 23) (z := ((a + j : Nat) : Int))) ?_
    refine sCv (p := 8) (as := [_]) rfl rfl rfl rfl (by decide) (Nat.le_of_ble_eq_true rfl) rfl (Nat.le_of_ble_eq_true rfl) (sk_179 _) rfl (by omega) (m_look (S := (wI S 179 23 ((a + j : Nat) : Int))) (p := a + j) (mt_w ht (by decide)) (by omega)) ?_
    refine sKb (p := 10) rfl rfl ?_
    refine sIc_eq (p := 13) rfl rfl ⟨by omega, by omega⟩ ⟨by omega, by omega⟩ (fun c1 => ?_) (fun c1 => ?_)
    · have c1 := c1
      refine sL (pc' := 27) (i := .aload_n 0) rfl rfl ?_
      refine sL (pc' := 28) (i := .dup) rfl rfl ?_
      refine sGi (p := 31) rfl rfl (sk_179 _) rfl rfl rfl (rI_at (S := S) (a := 179) (i := 23) (z := ((a + j : Nat) : Int))) ?_
      refine sKi (p := 32) rfl rfl ?_
      refine sAd (p := 33) rfl rfl ?_
      refine sPi (z := (((a + j : Nat) : Int) + 1)) (p := 36) rfl rfl (sk_179 _) rfl rfl rfl rfl ?_
      refine sL (i := .goto (-36)) rfl rfl ?_
      refine sRo (ls := [some (.ref 179)]) (T := (wI S 179 23 ((a + (j + 1) : Nat) : Int))) (And.intro rfl (True.intro)) (congrArg sH (wI_wI.trans (congrArg (wI S 179 23) (by omega)))) (ih0 ?_)
      exact True.intro
    · have c1 := c1
      refine sL (pc' := 14) (i := .aload_n 0) rfl rfl ?_
      refine sL (pc' := 15) (i := .aload_n 0) rfl rfl ?_
      refine sGi (p := 18) rfl rfl (sk_179 _) rfl rfl rfl (rI_at (S := S) (a := 179) (i := 23) (z := ((a + j : Nat) : Int))) ?_
      refine sCv (p := 21) (as := [_]) rfl rfl rfl rfl (by decide) (Nat.le_of_ble_eq_true rfl) rfl (Nat.le_of_ble_eq_true rfl) (sk_179 _) rfl (by omega) (m_look (S := (wI S 179 23 ((a + j : Nat) : Int))) (p := a + j) (mt_w ht (by decide)) (by omega)) ?_
      refine sKb (p := 23) rfl rfl ?_
      refine sIc_ne (p := 26) rfl rfl ⟨by omega, by omega⟩ ⟨by omega, by omega⟩ (fun c2 => ?_) (fun c2 => ?_)
      · exfalso; omega
      · have c2 := c2
        refine sL (pc' := 27) (i := .aload_n 0) rfl rfl ?_
        refine sL (pc' := 28) (i := .dup) rfl rfl ?_
        refine sGi (p := 31) rfl rfl (sk_179 _) rfl rfl rfl (rI_at (S := S) (a := 179) (i := 23) (z := ((a + j : Nat) : Int))) ?_
        refine sKi (p := 32) rfl rfl ?_
        refine sAd (p := 33) rfl rfl ?_
        refine sPi (z := (((a + j : Nat) : Int) + 1)) (p := 36) rfl rfl (sk_179 _) rfl rfl rfl rfl ?_
        refine sL (i := .goto (-36)) rfl rfl ?_
        refine sRo (ls := [some (.ref 179)]) (T := (wI S 179 23 ((a + (j + 1) : Nat) : Int))) (And.intro rfl (True.intro)) (congrArg sH (wI_wI.trans (congrArg (wI S 179 23) (by omega)))) (ih0 ?_)
        exact True.intro
  · have hI0 := hI0
    have hq : ¬ (bA y s (a + L) = 32 ∨ bA y s (a + L) = 10) := fun z => by
      have h9 := (bA_B ht.2.1).mp z
      rw [hout h9.1] at h9
      cases h9.2
    have hbb := bA_b (y := y) (s := s) ht.2.1 (a + L)
    refine sL (pc' := 1) (i := .aload_n 0) rfl rfl ?_
    refine sL (pc' := 2) (i := .aload_n 0) rfl rfl ?_
    refine sGi (p := 5) rfl rfl (sk_179 _) rfl rfl rfl (rI_at (S := S) (a := 179) (i := 23) (z := ((a + L : Nat) : Int))) ?_
    refine sCv (p := 8) (as := [_]) rfl rfl rfl rfl (by decide) (Nat.le_of_ble_eq_true rfl) rfl (Nat.le_of_ble_eq_true rfl) (sk_179 _) rfl (by omega) (m_look (S := (wI S 179 23 ((a + L : Nat) : Int))) (p := a + L) (mt_w ht (by decide)) (by omega)) ?_
    refine sKb (p := 10) rfl rfl ?_
    refine sIc_eq (p := 13) rfl rfl ⟨by omega, by omega⟩ ⟨by omega, by omega⟩ (fun c3 => ?_) (fun c3 => ?_)
    · exfalso; omega
    · have c3 := c3
      refine sL (pc' := 14) (i := .aload_n 0) rfl rfl ?_
      refine sL (pc' := 15) (i := .aload_n 0) rfl rfl ?_
      refine sGi (p := 18) rfl rfl (sk_179 _) rfl rfl rfl (rI_at (S := S) (a := 179) (i := 23) (z := ((a + L : Nat) : Int))) ?_
      refine sCv (p := 21) (as := [_]) rfl rfl rfl rfl (by decide) (Nat.le_of_ble_eq_true rfl) rfl (Nat.le_of_ble_eq_true rfl) (sk_179 _) rfl (by omega) (m_look (S := (wI S 179 23 ((a + L : Nat) : Int))) (p := a + L) (mt_w ht (by decide)) (by omega)) ?_
      refine sKb (p := 23) rfl rfl ?_
      refine sIc_ne (p := 26) rfl rfl ⟨by omega, by omega⟩ ⟨by omega, by omega⟩ (fun c4 => ?_) (fun c4 => ?_)
      · have c4 := c4
        refine sEn (i := .return_) rfl (rfl) ?_
        exact ⟨rfl, rfl⟩
      · exfalso; omega
end MT
