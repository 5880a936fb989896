/-! ===== printing: the text; the reference's print ===== -/
def dgt (v : Nat) : List Nat := if v < 10 then [48 + v] else if v < 100 then [48 + v / 10, 48 + v % 10] else [48 + v / 100, 48 + v / 10 % 10, 48 + v % 10]
def kdT (c : Nat → Nat) : Nat → List Nat
  | 0 => []
  | k + 1 => kdT c k ++ [if k = 0 then 40 else 44] ++ dgt (c k)
def ndT (j v : Nat) (c : Nat → Nat) (s : Nat) : List Nat := (if 0 < j then [32] else []) ++ dgt (j + 2) ++ [58] ++ dgt v ++ kdT c s ++ [41]
def ndsT (v : Nat → Nat) (c : Nat → Nat → Nat) (sz : Nat → Nat) : Nat → List Nat
  | 0 => []
  | j + 1 => ndsT v c sz j ++ ndT j (v j) (c j) (sz (v j))
/-- the text of a function -/
noncomputable def prV (n : Nat) (sz ord : Nat → Nat) (g : Nat → Bool) (j : Nat) : Nat := ord (fpl n sz ord (LF n sz ord g j))
noncomputable def prC (n : Nat) (sz ord : Nat → Nat) (g : Nat → Bool) (j k : Nat) : Nat := (cdN (pr sz n) (NF n sz ord g) (LF n sz ord g) (cof n sz (LF n sz ord g j) (prV n sz ord g j) k)).toNat
noncomputable def prT (n : Nat) (sz ord : Nat → Nat) (g : Nat → Bool) : List Nat := (if lfv (pr sz n) g = -1 then [] else [48 + (lfv (pr sz n) g).toNat]) ++ ndsT (prV n sz ord g) (prC n sz ord g) sz (NF n sz ord g)
/-- the reference's text, b letters at most -/
def tbM (S : ST) (L : List Nat) (b : Nat) : Prop := SI S 179 44 = ((L.length : Nat) : Int) ∧ (∀ j, j < L.length → SI S 201 j = ((L.getD j 0 : Nat) : Int)) ∧ L.length ≤ b
def frI (S S' : ST) : Prop := S'.1 = S.1 ∧ SR S' = SR S ∧ SL S' = SL S ∧ (∀ c, c ≠ 179 → c ≠ 201 → SI S' c = SI S c) ∧ ∀ j, j ≠ 44 → SI S' 179 j = SI S 179 j
theorem frI_refl (S : ST) : frI S S := ⟨rfl, rfl, rfl, fun _ _ _ => rfl, fun _ _ => rfl⟩
theorem frI_trans {S T V : ST} (h : frI S T) (k : frI T V) : frI S V := ⟨k.1.trans h.1, k.2.1.trans h.2.1, k.2.2.1.trans h.2.2.1, fun c a b => (k.2.2.2.1 c a b).trans (h.2.2.2.1 c a b), fun j a => (k.2.2.2.2 j a).trans (h.2.2.2.2 j a)⟩
theorem frI_w {S : ST} {z : Int} : frI S (wI S 179 44 z) := ⟨rfl, rfl, rfl, fun c c1 _ => funext fun j => rI_ne c1 j, fun j j1 => rI_nj j1⟩
theorem frI_a {S : ST} {k : Nat} {z : Int} : frI S (wI S 201 k z) := ⟨rfl, rfl, rfl, fun c _ c1 => funext fun j => rI_ne c1 j, fun j _ => rI_ne (by decide) j⟩
theorem vM_I {S S' : ST} {n : Nat} {sz : Nat → Nat} (h : vM S n sz) (f : frI S S') : vM S' n sz := by
  unfold vM at *
  rw [f.2.2.2.1 180 (by decide) (by decide), f.2.2.2.1 181 (by decide) (by decide), f.2.2.2.2 1 (by decide), f.2.2.2.2 4 (by decide)]
  exact h
theorem dgt_b (v : Nat) : (dgt v).length ≤ 3 := by
  unfold dgt
  repeat' split
  · exact (by decide : 1 ≤ 3)
  · exact (by decide : 2 ≤ 3)
  · exact (by decide : 3 ≤ 3)
section MPa
variable {X : List Int32} {S : ST} {L : List Nat} {b : Nat}
theorem m_put {c : Nat} (hc : c < 128) (h : tbM S L b) (hb : b < 20000) : sM X 0 241 [.ref 179, .int (iI ((c : Nat) : Int))] S (fun r S' => r = none ∧ tbM S' (L ++ [c]) (b + 1) ∧ frI S S') := by
  have hl := h.2.2
  have hsb : sb c = ((c : Nat) : Int) := if_pos hc
  have hw := sb_w c (by omega)
  rw [hsb] at hw
  refine sIni (ls := [some (.ref 179), some (.int (iI ((c : Nat) : Int)))]) rfl ?_
  refine sL (pc' := 1) (i := .aload_n 0) rfl rfl ?_
  refine sGc (p := 4) rfl rfl (sk_179 _) rfl rfl rfl ?_
  refine sL (pc' := 5) (i := .aload_n 0) rfl rfl ?_
  refine sGi (p := 8) rfl rfl (sk_179 _) rfl rfl rfl h.1 ?_
  refine sL (pc' := 9) (i := .iload_n 1) rfl rfl ?_
  refine sL (pc' := 10) (i := .i2b) rfl rfl ?_
  rw [hw]
  refine sWb (p := 11) (i := L.length) (w := ((c : Nat) : Int)) rfl rfl (sk_201 _) (by omega) ⟨by omega, by omega⟩ hw ?_
  refine sL (pc' := 12) (i := .aload_n 0) rfl rfl ?_
  refine sL (pc' := 13) (i := .dup) rfl rfl ?_
  refine sGi (p := 16) rfl rfl (sk_179 _) rfl rfl rfl ((rI_ne (by decide) _).trans h.1) ?_
  refine sKi (p := 17) rfl rfl ?_
  refine sAd (p := 18) rfl rfl ?_
  refine sPi (z := (((L.length : Nat) : Int) + 1)) (p := 21) rfl rfl (sk_179 _) rfl rfl rfl rfl ?_
  refine sEn (i := .return_) rfl (rfl) ?_
  refine ⟨rfl, ⟨rI_at.trans (by rw [List.length_append]; rfl), fun j hj => ?_, by rw [List.length_append]; show L.length + 1 ≤ b + 1; omega⟩, frI_trans frI_a frI_w⟩
  refine (rI_ne (by decide) _).trans ?_
  rw [List.length_append] at hj
  have hj : j < L.length + 1 := hj
  by_cases q : j = L.length
  · rw [q, rI_at, List.getD_eq_getElem?_getD, List.getElem?_append_right (Nat.le_refl _), Nat.sub_self]
    rfl
  · rw [rI_nj q, h.2.1 j (by omega), List.getD_eq_getElem?_getD, List.getD_eq_getElem?_getD, List.getElem?_append_left (by omega)]
theorem m_putNumber {v : Nat} (hv : v < 1000) (h : tbM S L b) (hb : b + 3 ≤ 20000) : sM X 1 242 [.ref 179, .int (iI ((v : Nat) : Int))] S (fun r S' => r = none ∧ tbM S' (L ++ dgt v) (b + 3) ∧ frI S S') := by
  have hl := h.2.2
  unfold dgt
  by_cases q1 : v < 10
  · rw [if_pos q1]
    refine sIni (ls := [some (.ref 179), some (.int (iI ((v : Nat) : Int))), none]) rfl ?_
    refine sKi (p := 1) rfl rfl ?_
    refine sL (pc' := 2) (i := .istore_n 2) (ls' := [some (.ref 179), some (.int (iI ((v : Nat) : Int))), some (.int (iI 1))]) rfl rfl ?_
    refine sL (pc' := 3) (i := .iload_n 1) rfl rfl ?_
    refine sL (pc' := 4) (i := .iload_n 2) rfl rfl ?_
    refine sDv (p := 5) rfl rfl ⟨by omega, by omega⟩ ⟨by omega, by omega⟩ ?_
    refine sKb (p := 7) rfl rfl ?_
    refine sIc_le (p := 10) rfl rfl ⟨by omega, by omega⟩ ⟨by omega, by omega⟩ (fun c1 => ?_) (fun c1 => ?_)
    · have c1 := c1
      refine sL (pc' := 19) (i := .iload_n 2) rfl rfl ?_
      refine sIf_le (p := 22) rfl rfl ⟨by omega, by omega⟩ (fun c2 => ?_) (fun c2 => ?_)
      · exact absurd c2 (by decide)
      · have c2 := c2
        refine sL (pc' := 23) (i := .aload_n 0) rfl rfl ?_
        refine sKb (p := 25) rfl rfl ?_
        refine sL (pc' := 26) (i := .iload_n 1) rfl rfl ?_
        refine sL (pc' := 27) (i := .iload_n 2) rfl rfl ?_
        refine sDv (p := 28) rfl rfl ⟨by omega, by omega⟩ ⟨by omega, by omega⟩ ?_
        refine sKb (p := 30) rfl rfl ?_
        refine sRm (p := 31) rfl rfl ⟨by omega, by omega⟩ ⟨by omega, by omega⟩ ?_
        refine sAd (p := 32) rfl rfl ?_
        rw [show ((48 + ((((v : Nat) : Int) / 1) % 10)) : Int) = ((48 + v / 1 % 10 : Nat) : Int) from by omega]
        refine sCvQ (p := 35) (as := [_]) rfl rfl rfl rfl (by decide) (Nat.le_of_ble_eq_true rfl) rfl (Nat.le_of_ble_eq_true rfl) (sk_179 _) rfl (by omega) (m_put (c := 48 + v / 1 % 10) (by omega) h (by omega)) ?_
        rintro _ P1 ⟨rfl, t1, f1⟩
        refine sL (pc' := 36) (i := .iload_n 2) rfl rfl ?_
        refine sKb (p := 38) rfl rfl ?_
        refine sDv (p := 39) rfl rfl ⟨by omega, by omega⟩ ⟨by omega, by omega⟩ ?_
        rw [show ((1 / 10) : Int) = 0 from by decide]
        refine sL (pc' := 40) (i := .istore_n 2) (ls' := [some (.ref 179), some (.int (iI ((v : Nat) : Int))), some (.int (iI 0))]) rfl rfl ?_
        refine sL (i := .goto (-22)) rfl rfl ?_
        refine sL (pc' := 19) (i := .iload_n 2) rfl rfl ?_
        refine sIf_le (p := 22) rfl rfl ⟨by omega, by omega⟩ (fun c3 => ?_) (fun c3 => ?_)
        · have c3 := c3
          refine sEn (i := .return_) rfl (rfl) ?_
          have e0 : 48 + v / 1 % 10 = 48 + v := by
            omega
          refine ⟨rfl, ?_, f1⟩
          have tt := t1
          rw [e0] at tt
          exact ⟨tt.1, tt.2.1, Nat.le_trans tt.2.2 (by omega)⟩
        · exact absurd c3 (by decide)
    · have c1 := c1
      exfalso
      omega
  · rw [if_neg q1]
    by_cases q2 : v < 100
    · rw [if_pos q2]
      refine sIni (ls := [some (.ref 179), some (.int (iI ((v : Nat) : Int))), none]) rfl ?_
      refine sKi (p := 1) rfl rfl ?_
      refine sL (pc' := 2) (i := .istore_n 2) (ls' := [some (.ref 179), some (.int (iI ((v : Nat) : Int))), some (.int (iI 1))]) rfl rfl ?_
      refine sL (pc' := 3) (i := .iload_n 1) rfl rfl ?_
      refine sL (pc' := 4) (i := .iload_n 2) rfl rfl ?_
      refine sDv (p := 5) rfl rfl ⟨by omega, by omega⟩ ⟨by omega, by omega⟩ ?_
      refine sKb (p := 7) rfl rfl ?_
      refine sIc_le (p := 10) rfl rfl ⟨by omega, by omega⟩ ⟨by omega, by omega⟩ (fun c1 => ?_) (fun c1 => ?_)
      · have c1 := c1
        exfalso
        omega
      · have c1 := c1
        refine sL (pc' := 11) (i := .iload_n 2) rfl rfl ?_
        refine sKb (p := 13) rfl rfl ?_
        refine sMu (p := 14) rfl rfl ?_
        rw [show ((1 * 10) : Int) = 10 from by decide]
        refine sL (pc' := 15) (i := .istore_n 2) (ls' := [some (.ref 179), some (.int (iI ((v : Nat) : Int))), some (.int (iI 10))]) rfl rfl ?_
        refine sL (i := .goto (-13)) rfl rfl ?_
        refine sL (pc' := 3) (i := .iload_n 1) rfl rfl ?_
        refine sL (pc' := 4) (i := .iload_n 2) rfl rfl ?_
        refine sDv (p := 5) rfl rfl ⟨by omega, by omega⟩ ⟨by omega, by omega⟩ ?_
        refine sKb (p := 7) rfl rfl ?_
        refine sIc_le (p := 10) rfl rfl ⟨by omega, by omega⟩ ⟨by omega, by omega⟩ (fun c2 => ?_) (fun c2 => ?_)
        · have c2 := c2
          refine sL (pc' := 19) (i := .iload_n 2) rfl rfl ?_
          refine sIf_le (p := 22) rfl rfl ⟨by omega, by omega⟩ (fun c3 => ?_) (fun c3 => ?_)
          · exact absurd c3 (by decide)
          · have c3 := c3
            refine sL (pc' := 23) (i := .aload_n 0) rfl rfl ?_
            refine sKb (p := 25) rfl rfl ?_
            refine sL (pc' := 26) (i := .iload_n 1) rfl rfl ?_
            refine sL (pc' := 27) (i := .iload_n 2) rfl rfl ?_
            refine sDv (p := 28) rfl rfl ⟨by omega, by omega⟩ ⟨by omega, by omega⟩ ?_
            refine sKb (p := 30) rfl rfl ?_
            refine sRm (p := 31) rfl rfl ⟨by omega, by omega⟩ ⟨by omega, by omega⟩ ?_
            refine sAd (p := 32) rfl rfl ?_
            rw [show ((48 + ((((v : Nat) : Int) / 10) % 10)) : Int) = ((48 + v / 10 % 10 : Nat) : Int) from by omega]
            refine sCvQ (p := 35) (as := [_]) rfl rfl rfl rfl (by decide) (Nat.le_of_ble_eq_true rfl) rfl (Nat.le_of_ble_eq_true rfl) (sk_179 _) rfl (by omega) (m_put (c := 48 + v / 10 % 10) (by omega) h (by omega)) ?_
            rintro _ P1 ⟨rfl, t1, f1⟩
            refine sL (pc' := 36) (i := .iload_n 2) rfl rfl ?_
            refine sKb (p := 38) rfl rfl ?_
            refine sDv (p := 39) rfl rfl ⟨by omega, by omega⟩ ⟨by omega, by omega⟩ ?_
            rw [show ((10 / 10) : Int) = 1 from by decide]
            refine sL (pc' := 40) (i := .istore_n 2) (ls' := [some (.ref 179), some (.int (iI ((v : Nat) : Int))), some (.int (iI 1))]) rfl rfl ?_
            refine sL (i := .goto (-22)) rfl rfl ?_
            refine sL (pc' := 19) (i := .iload_n 2) rfl rfl ?_
            refine sIf_le (p := 22) rfl rfl ⟨by omega, by omega⟩ (fun c4 => ?_) (fun c4 => ?_)
            · exact absurd c4 (by decide)
            · have c4 := c4
              refine sL (pc' := 23) (i := .aload_n 0) rfl rfl ?_
              refine sKb (p := 25) rfl rfl ?_
              refine sL (pc' := 26) (i := .iload_n 1) rfl rfl ?_
              refine sL (pc' := 27) (i := .iload_n 2) rfl rfl ?_
              refine sDv (p := 28) rfl rfl ⟨by omega, by omega⟩ ⟨by omega, by omega⟩ ?_
              refine sKb (p := 30) rfl rfl ?_
              refine sRm (p := 31) rfl rfl ⟨by omega, by omega⟩ ⟨by omega, by omega⟩ ?_
              refine sAd (p := 32) rfl rfl ?_
              rw [show ((48 + ((((v : Nat) : Int) / 1) % 10)) : Int) = ((48 + v / 1 % 10 : Nat) : Int) from by omega]
              refine sCvQ (p := 35) (as := [_]) rfl rfl rfl rfl (by decide) (Nat.le_of_ble_eq_true rfl) rfl (Nat.le_of_ble_eq_true rfl) (sk_179 _) rfl (by omega) (m_put (c := 48 + v / 1 % 10) (by omega) t1 (by omega)) ?_
              rintro _ P2 ⟨rfl, t2, f2⟩
              refine sL (pc' := 36) (i := .iload_n 2) rfl rfl ?_
              refine sKb (p := 38) rfl rfl ?_
              refine sDv (p := 39) rfl rfl ⟨by omega, by omega⟩ ⟨by omega, by omega⟩ ?_
              rw [show ((1 / 10) : Int) = 0 from by decide]
              refine sL (pc' := 40) (i := .istore_n 2) (ls' := [some (.ref 179), some (.int (iI ((v : Nat) : Int))), some (.int (iI 0))]) rfl rfl ?_
              refine sL (i := .goto (-22)) rfl rfl ?_
              refine sL (pc' := 19) (i := .iload_n 2) rfl rfl ?_
              refine sIf_le (p := 22) rfl rfl ⟨by omega, by omega⟩ (fun c5 => ?_) (fun c5 => ?_)
              · have c5 := c5
                refine sEn (i := .return_) rfl (rfl) ?_
                have e0 : 48 + v / 10 % 10 = 48 + v / 10 ∧ 48 + v / 1 % 10 = 48 + v % 10 := by
                  omega
                refine ⟨rfl, ?_, frI_trans f1 f2⟩
                have tt := t2
                rw [List.append_assoc] at tt
                rw [e0.1, e0.2] at tt
                exact ⟨tt.1, tt.2.1, Nat.le_trans tt.2.2 (by omega)⟩
              · exact absurd c5 (by decide)
        · have c2 := c2
          exfalso
          omega
    · rw [if_neg q2]
      refine sIni (ls := [some (.ref 179), some (.int (iI ((v : Nat) : Int))), none]) rfl ?_
      refine sKi (p := 1) rfl rfl ?_
      refine sL (pc' := 2) (i := .istore_n 2) (ls' := [some (.ref 179), some (.int (iI ((v : Nat) : Int))), some (.int (iI 1))]) rfl rfl ?_
      refine sL (pc' := 3) (i := .iload_n 1) rfl rfl ?_
      refine sL (pc' := 4) (i := .iload_n 2) rfl rfl ?_
      refine sDv (p := 5) rfl rfl ⟨by omega, by omega⟩ ⟨by omega, by omega⟩ ?_
      refine sKb (p := 7) rfl rfl ?_
      refine sIc_le (p := 10) rfl rfl ⟨by omega, by omega⟩ ⟨by omega, by omega⟩ (fun c1 => ?_) (fun c1 => ?_)
      · have c1 := c1
        exfalso
        omega
      · have c1 := c1
        refine sL (pc' := 11) (i := .iload_n 2) rfl rfl ?_
        refine sKb (p := 13) rfl rfl ?_
        refine sMu (p := 14) rfl rfl ?_
        rw [show ((1 * 10) : Int) = 10 from by decide]
        refine sL (pc' := 15) (i := .istore_n 2) (ls' := [some (.ref 179), some (.int (iI ((v : Nat) : Int))), some (.int (iI 10))]) rfl rfl ?_
        refine sL (i := .goto (-13)) rfl rfl ?_
        refine sL (pc' := 3) (i := .iload_n 1) rfl rfl ?_
        refine sL (pc' := 4) (i := .iload_n 2) rfl rfl ?_
        refine sDv (p := 5) rfl rfl ⟨by omega, by omega⟩ ⟨by omega, by omega⟩ ?_
        refine sKb (p := 7) rfl rfl ?_
        refine sIc_le (p := 10) rfl rfl ⟨by omega, by omega⟩ ⟨by omega, by omega⟩ (fun c2 => ?_) (fun c2 => ?_)
        · have c2 := c2
          exfalso
          omega
        · have c2 := c2
          refine sL (pc' := 11) (i := .iload_n 2) rfl rfl ?_
          refine sKb (p := 13) rfl rfl ?_
          refine sMu (p := 14) rfl rfl ?_
          rw [show ((10 * 10) : Int) = 100 from by decide]
          refine sL (pc' := 15) (i := .istore_n 2) (ls' := [some (.ref 179), some (.int (iI ((v : Nat) : Int))), some (.int (iI 100))]) rfl rfl ?_
          refine sL (i := .goto (-13)) rfl rfl ?_
          refine sL (pc' := 3) (i := .iload_n 1) rfl rfl ?_
          refine sL (pc' := 4) (i := .iload_n 2) rfl rfl ?_
          refine sDv (p := 5) rfl rfl ⟨by omega, by omega⟩ ⟨by omega, by omega⟩ ?_
          refine sKb (p := 7) rfl rfl ?_
          refine sIc_le (p := 10) rfl rfl ⟨by omega, by omega⟩ ⟨by omega, by omega⟩ (fun c3 => ?_) (fun c3 => ?_)
          · have c3 := c3
            refine sL (pc' := 19) (i := .iload_n 2) rfl rfl ?_
            refine sIf_le (p := 22) rfl rfl ⟨by omega, by omega⟩ (fun c4 => ?_) (fun c4 => ?_)
            · exact absurd c4 (by decide)
            · have c4 := c4
              refine sL (pc' := 23) (i := .aload_n 0) rfl rfl ?_
              refine sKb (p := 25) rfl rfl ?_
              refine sL (pc' := 26) (i := .iload_n 1) rfl rfl ?_
              refine sL (pc' := 27) (i := .iload_n 2) rfl rfl ?_
              refine sDv (p := 28) rfl rfl ⟨by omega, by omega⟩ ⟨by omega, by omega⟩ ?_
              refine sKb (p := 30) rfl rfl ?_
              refine sRm (p := 31) rfl rfl ⟨by omega, by omega⟩ ⟨by omega, by omega⟩ ?_
              refine sAd (p := 32) rfl rfl ?_
              rw [show ((48 + ((((v : Nat) : Int) / 100) % 10)) : Int) = ((48 + v / 100 % 10 : Nat) : Int) from by omega]
              refine sCvQ (p := 35) (as := [_]) rfl rfl rfl rfl (by decide) (Nat.le_of_ble_eq_true rfl) rfl (Nat.le_of_ble_eq_true rfl) (sk_179 _) rfl (by omega) (m_put (c := 48 + v / 100 % 10) (by omega) h (by omega)) ?_
              rintro _ P1 ⟨rfl, t1, f1⟩
              refine sL (pc' := 36) (i := .iload_n 2) rfl rfl ?_
              refine sKb (p := 38) rfl rfl ?_
              refine sDv (p := 39) rfl rfl ⟨by omega, by omega⟩ ⟨by omega, by omega⟩ ?_
              rw [show ((100 / 10) : Int) = 10 from by decide]
              refine sL (pc' := 40) (i := .istore_n 2) (ls' := [some (.ref 179), some (.int (iI ((v : Nat) : Int))), some (.int (iI 10))]) rfl rfl ?_
              refine sL (i := .goto (-22)) rfl rfl ?_
              refine sL (pc' := 19) (i := .iload_n 2) rfl rfl ?_
              refine sIf_le (p := 22) rfl rfl ⟨by omega, by omega⟩ (fun c5 => ?_) (fun c5 => ?_)
              · exact absurd c5 (by decide)
              · have c5 := c5
                refine sL (pc' := 23) (i := .aload_n 0) rfl rfl ?_
                refine sKb (p := 25) rfl rfl ?_
                refine sL (pc' := 26) (i := .iload_n 1) rfl rfl ?_
                refine sL (pc' := 27) (i := .iload_n 2) rfl rfl ?_
                refine sDv (p := 28) rfl rfl ⟨by omega, by omega⟩ ⟨by omega, by omega⟩ ?_
                refine sKb (p := 30) rfl rfl ?_
                refine sRm (p := 31) rfl rfl ⟨by omega, by omega⟩ ⟨by omega, by omega⟩ ?_
                refine sAd (p := 32) rfl rfl ?_
                rw [show ((48 + ((((v : Nat) : Int) / 10) % 10)) : Int) = ((48 + v / 10 % 10 : Nat) : Int) from by omega]
                refine sCvQ (p := 35) (as := [_]) rfl rfl rfl rfl (by decide) (Nat.le_of_ble_eq_true rfl) rfl (Nat.le_of_ble_eq_true rfl) (sk_179 _) rfl (by omega) (m_put (c := 48 + v / 10 % 10) (by omega) t1 (by omega)) ?_
                rintro _ P2 ⟨rfl, t2, f2⟩
                refine sL (pc' := 36) (i := .iload_n 2) rfl rfl ?_
                refine sKb (p := 38) rfl rfl ?_
                refine sDv (p := 39) rfl rfl ⟨by omega, by omega⟩ ⟨by omega, by omega⟩ ?_
                rw [show ((10 / 10) : Int) = 1 from by decide]
                refine sL (pc' := 40) (i := .istore_n 2) (ls' := [some (.ref 179), some (.int (iI ((v : Nat) : Int))), some (.int (iI 1))]) rfl rfl ?_
                refine sL (i := .goto (-22)) rfl rfl ?_
                refine sL (pc' := 19) (i := .iload_n 2) rfl rfl ?_
                refine sIf_le (p := 22) rfl rfl ⟨by omega, by omega⟩ (fun c6 => ?_) (fun c6 => ?_)
                · exact absurd c6 (by decide)
                · have c6 := c6
                  refine sL (pc' := 23) (i := .aload_n 0) rfl rfl ?_
                  refine sKb (p := 25) rfl rfl ?_
                  refine sL (pc' := 26) (i := .iload_n 1) rfl rfl ?_
                  refine sL (pc' := 27) (i := .iload_n 2) rfl rfl ?_
                  refine sDv (p := 28) rfl rfl ⟨by omega, by omega⟩ ⟨by omega, by omega⟩ ?_
                  refine sKb (p := 30) rfl rfl ?_
                  refine sRm (p := 31) rfl rfl ⟨by omega, by omega⟩ ⟨by omega, by omega⟩ ?_
                  refine sAd (p := 32) rfl rfl ?_
                  rw [show ((48 + ((((v : Nat) : Int) / 1) % 10)) : Int) = ((48 + v / 1 % 10 : Nat) : Int) from by omega]
                  refine sCvQ (p := 35) (as := [_]) rfl rfl rfl rfl (by decide) (Nat.le_of_ble_eq_true rfl) rfl (Nat.le_of_ble_eq_true rfl) (sk_179 _) rfl (by omega) (m_put (c := 48 + v / 1 % 10) (by omega) t2 (by omega)) ?_
                  rintro _ P3 ⟨rfl, t3, f3⟩
                  refine sL (pc' := 36) (i := .iload_n 2) rfl rfl ?_
                  refine sKb (p := 38) rfl rfl ?_
                  refine sDv (p := 39) rfl rfl ⟨by omega, by omega⟩ ⟨by omega, by omega⟩ ?_
                  rw [show ((1 / 10) : Int) = 0 from by decide]
                  refine sL (pc' := 40) (i := .istore_n 2) (ls' := [some (.ref 179), some (.int (iI ((v : Nat) : Int))), some (.int (iI 0))]) rfl rfl ?_
                  refine sL (i := .goto (-22)) rfl rfl ?_
                  refine sL (pc' := 19) (i := .iload_n 2) rfl rfl ?_
                  refine sIf_le (p := 22) rfl rfl ⟨by omega, by omega⟩ (fun c7 => ?_) (fun c7 => ?_)
                  · have c7 := c7
                    refine sEn (i := .return_) rfl (rfl) ?_
                    have e0 : 48 + v / 100 % 10 = 48 + v / 100 ∧ 48 + v / 10 % 10 = 48 + v / 10 % 10 ∧ 48 + v / 1 % 10 = 48 + v % 10 := by
                      omega
                    refine ⟨rfl, ?_, frI_trans f1 (frI_trans f2 f3)⟩
                    have tt := t3
                    rw [List.append_assoc, List.append_assoc] at tt
                    rw [e0.1, e0.2.1, e0.2.2] at tt
                    exact ⟨tt.1, tt.2.1, Nat.le_trans tt.2.2 (by omega)⟩
                  · exact absurd c7 (by decide)
          · have c3 := c3
            exfalso
            omega
end MPa
