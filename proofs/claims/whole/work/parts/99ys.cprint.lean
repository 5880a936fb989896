/-! ===== the class: the page, printing into it ===== -/
/-- the page holds a text (m is 0: it has one row for ever) -/
def sbB (S : ST) (L : List Nat) (m : Nat) : Prop := m = 0 ∧ L.length ≤ 8192 ∧ SI S 177 1 = ((L.length : Nat) : Int) ∧ ∀ j, j < L.length → SI S 178 j = ((L.getD j 0 : Nat) : Int) ∧ L.getD j 0 < 128
/-- the page alone changed -/
def frU (S S' : ST) (m m' : Nat) : Prop := S'.1 = S.1 ∧ (∀ c, c ≠ 177 → c ≠ 178 → SI S' c = SI S c) ∧ SL S' = SL S ∧ SR S' = SR S ∧ m' = m
theorem frU_refl (S : ST) (m : Nat) : frU S S m m := ⟨rfl, fun _ _ _ => rfl, rfl, rfl, rfl⟩
theorem frU_trans {S T V : ST} {m m1 m2 : Nat} (h : frU S T m m1) (k : frU T V m1 m2) : frU S V m m2 := ⟨k.1.trans h.1, fun c a b => (k.2.1 c a b).trans (h.2.1 c a b), k.2.2.1.trans h.2.2.1, k.2.2.2.1.trans h.2.2.2.1, k.2.2.2.2.trans h.2.2.2.2⟩
theorem frU_w {S : ST} {m : Nat} {z : Int} : frU S (wI S 177 1 z) m m := ⟨rfl, fun c c1 _ => funext fun j => rI_ne c1 j, rfl, rfl, rfl⟩
theorem frU_a {S : ST} {m k : Nat} {z : Int} : frU S (wI S 178 k z) m m := ⟨rfl, fun c _ c1 => funext fun j => rI_ne c1 j, rfl, rfl, rfl⟩
theorem kd_app {S S' : ST} {t : List KD} (h : S'.1 = S.1 ++ t) {c : Nat} {k : KD} (hc : kd S c = some k) : kd S' c = some k := by
  unfold kd at *
  rw [h, ← List.append_assoc, List.getElem?_append_left (List.getElem?_eq_some_iff.mp hc).1]
  exact hc
theorem kd_b {S : ST} {c : Nat} {k : KD} (hc : kd S c = some k) : c < 203 + S.1.length := by
  have := kd_lt hc
  rw [sh_len] at this
  exact this
def sbT (S : ST) (L : List Nat) (b m : Nat) : Prop := sbB S L m ∧ L.length ≤ b
section CA
variable {X : List Int32} {S : ST} {L : List Nat} {m n b R : Nat} {sz : Nat → Nat}
theorem b_app {bb c : Nat} (h : sbT S L bb m) (hc : c < 128) (hb : bb < 8192) : sM X 0 342 [.ref 177, .int (iI ((c : Nat) : Int))] S (fun r S' => r = none ∧ ∃ m', sbT S' (L ++ [c]) (bb + 1) m' ∧ frU S S' m m') := by
  have hl := h.2
  have h1 := h.1.2.2.1

  refine sIni (ls := [some (.ref 177), some (.int (iI ((c : Nat) : Int)))]) rfl ?_
  refine sL (pc' := 1) (i := .aload_n 0) rfl rfl ?_
  refine sGi (p := 4) rfl rfl (sk_177 _) rfl rfl rfl h1 ?_
  refine sKs (p := 7) rfl rfl ?_
  refine sIc_lt (p := 10) rfl rfl ⟨by omega, by omega⟩ ⟨by omega, by omega⟩ (fun c1 => ?_) (fun c1 => ?_)
  · have c1 := c1
    refine sL (pc' := 12) (i := .aload_n 0) rfl rfl ?_
    refine sGc (p := 15) rfl rfl (sk_177 _) rfl rfl rfl ?_
    refine sL (pc' := 16) (i := .aload_n 0) rfl rfl ?_
    refine sGi (p := 19) rfl rfl (sk_177 _) rfl rfl rfl h1 ?_
    refine sL (pc' := 20) (i := .iload_n 1) rfl rfl ?_
    refine sWi (p := 21) (i := L.length) rfl rfl (sk_178 _) (by omega) ⟨by omega, by omega⟩ ?_
    refine sL (pc' := 22) (i := .aload_n 0) rfl rfl ?_
    refine sL (pc' := 23) (i := .dup) rfl rfl ?_
    refine sGi (p := 26) rfl rfl (sk_177 _) rfl rfl rfl ((rI_ne (by decide) _).trans h1) ?_
    refine sKi (p := 27) rfl rfl ?_
    refine sAd (p := 28) rfl rfl ?_
    refine sPi (z := (((L.length : Nat) : Int) + 1)) (p := 31) rfl rfl (sk_177 _) rfl rfl rfl rfl ?_
    refine sEn (i := .return_) rfl (rfl) ?_
    refine ⟨rfl, m, ⟨⟨h.1.1, by rw [List.length_append]; show L.length + 1 ≤ 8192; omega, rI_at.trans (by rw [List.length_append]; rfl), fun j hj => ?_⟩, by rw [List.length_append]; show L.length + 1 ≤ bb + 1; omega⟩, frU_trans frU_a frU_w⟩
    rw [List.length_append] at hj
    have hj : j < L.length + 1 := hj
    by_cases q : j = L.length
    · have e9 : (L ++ [c]).getD j 0 = c := by
        rw [q, List.getD_eq_getElem?_getD, List.getElem?_append_right (Nat.le_refl _), Nat.sub_self]
        rfl
      rw [e9]
      refine ⟨(rI_ne (by decide) _).trans ?_, hc⟩
      rw [q]
      exact rI_at
    · have e9 : (L ++ [c]).getD j 0 = L.getD j 0 := by
        rw [List.getD_eq_getElem?_getD, List.getD_eq_getElem?_getD, List.getElem?_append_left (by omega)]
      rw [e9]
      exact ⟨(rI_ne (by decide) _).trans ((rI_nj q).trans (h.1.2.2.2 j (by omega)).1), (h.1.2.2.2 j (by omega)).2⟩
  · exfalso; omega
theorem b_num {bb v : Nat} (hv : v < 1000) (h : sbT S L bb m) (hb : bb + 3 ≤ 8192) : sM X 1 343 [.ref 177, .int (iI ((v : Nat) : Int))] S (fun r S' => r = none ∧ ∃ m', sbT S' (L ++ dgt v) (bb + 3) m' ∧ frU S S' m m') := by
  have hl := h.2
  unfold dgt
  by_cases q1 : v < 10
  · rw [if_pos q1]
    refine sIni (ls := [some (.ref 177), some (.int (iI ((v : Nat) : Int))), none]) rfl ?_
    refine sKs (p := 3) rfl rfl ?_
    refine sL (pc' := 4) (i := .istore_n 2) (ls' := [some (.ref 177), some (.int (iI ((v : Nat) : Int))), some (.int (iI 1000))]) rfl rfl ?_
    refine sL (pc' := 5) (i := .iload_n 2) rfl rfl ?_
    refine sKi (p := 6) rfl rfl ?_
    refine sIc_le (p := 9) rfl rfl ⟨by omega, by omega⟩ ⟨by omega, by omega⟩ (fun c1 => ?_) (fun c1 => ?_)
    · exact absurd c1 (by decide)
    · have c1 := c1
      refine sL (pc' := 10) (i := .iload_n 1) rfl rfl ?_
      refine sL (pc' := 11) (i := .iload_n 2) rfl rfl ?_
      refine sIc_lt (p := 14) rfl rfl ⟨by omega, by omega⟩ ⟨by omega, by omega⟩ (fun c2 => ?_) (fun c2 => ?_)
      · have c2 := c2
        refine sL (pc' := 28) (i := .iload_n 2) rfl rfl ?_
        refine sKb (p := 30) rfl rfl ?_
        refine sDv (p := 31) rfl rfl ⟨by omega, by omega⟩ ⟨by omega, by omega⟩ ?_
        rw [show ((1000 / 10) : Int) = 100 from by decide]
        refine sL (pc' := 32) (i := .istore_n 2) (ls' := [some (.ref 177), some (.int (iI ((v : Nat) : Int))), some (.int (iI 100))]) rfl rfl ?_
        refine sL (i := .goto (-28)) rfl rfl ?_
        refine sL (pc' := 5) (i := .iload_n 2) rfl rfl ?_
        refine sKi (p := 6) rfl rfl ?_
        refine sIc_le (p := 9) rfl rfl ⟨by omega, by omega⟩ ⟨by omega, by omega⟩ (fun c3 => ?_) (fun c3 => ?_)
        · exact absurd c3 (by decide)
        · have c3 := c3
          refine sL (pc' := 10) (i := .iload_n 1) rfl rfl ?_
          refine sL (pc' := 11) (i := .iload_n 2) rfl rfl ?_
          refine sIc_lt (p := 14) rfl rfl ⟨by omega, by omega⟩ ⟨by omega, by omega⟩ (fun c4 => ?_) (fun c4 => ?_)
          · have c4 := c4
            refine sL (pc' := 28) (i := .iload_n 2) rfl rfl ?_
            refine sKb (p := 30) rfl rfl ?_
            refine sDv (p := 31) rfl rfl ⟨by omega, by omega⟩ ⟨by omega, by omega⟩ ?_
            rw [show ((100 / 10) : Int) = 10 from by decide]
            refine sL (pc' := 32) (i := .istore_n 2) (ls' := [some (.ref 177), some (.int (iI ((v : Nat) : Int))), some (.int (iI 10))]) rfl rfl ?_
            refine sL (i := .goto (-28)) rfl rfl ?_
            refine sL (pc' := 5) (i := .iload_n 2) rfl rfl ?_
            refine sKi (p := 6) rfl rfl ?_
            refine sIc_le (p := 9) rfl rfl ⟨by omega, by omega⟩ ⟨by omega, by omega⟩ (fun c5 => ?_) (fun c5 => ?_)
            · exact absurd c5 (by decide)
            · have c5 := c5
              refine sL (pc' := 10) (i := .iload_n 1) rfl rfl ?_
              refine sL (pc' := 11) (i := .iload_n 2) rfl rfl ?_
              refine sIc_lt (p := 14) rfl rfl ⟨by omega, by omega⟩ ⟨by omega, by omega⟩ (fun c6 => ?_) (fun c6 => ?_)
              · have c6 := c6
                refine sL (pc' := 28) (i := .iload_n 2) rfl rfl ?_
                refine sKb (p := 30) rfl rfl ?_
                refine sDv (p := 31) rfl rfl ⟨by omega, by omega⟩ ⟨by omega, by omega⟩ ?_
                rw [show ((10 / 10) : Int) = 1 from by decide]
                refine sL (pc' := 32) (i := .istore_n 2) (ls' := [some (.ref 177), some (.int (iI ((v : Nat) : Int))), some (.int (iI 1))]) rfl rfl ?_
                refine sL (i := .goto (-28)) rfl rfl ?_
                refine sL (pc' := 5) (i := .iload_n 2) rfl rfl ?_
                refine sKi (p := 6) rfl rfl ?_
                refine sIc_le (p := 9) rfl rfl ⟨by omega, by omega⟩ ⟨by omega, by omega⟩ (fun c7 => ?_) (fun c7 => ?_)
                · have c7 := c7
                  refine sL (pc' := 36) (i := .aload_n 0) rfl rfl ?_
                  refine sKb (p := 38) rfl rfl ?_
                  refine sL (pc' := 39) (i := .iload_n 1) rfl rfl ?_
                  refine sKb (p := 41) rfl rfl ?_
                  refine sRm (p := 42) rfl rfl ⟨by omega, by omega⟩ ⟨by omega, by omega⟩ ?_
                  refine sAd (p := 43) rfl rfl ?_
                  rw [show ((48 + (((v : Nat) : Int) % 10)) : Int) = ((48 + v % 10 : Nat) : Int) from by omega]
                  refine sCvQ (p := 46) (as := [_]) rfl rfl rfl rfl (by decide) (Nat.le_of_ble_eq_true rfl) rfl (Nat.le_of_ble_eq_true rfl) (sk_177 _) rfl (by omega) (b_app (c := 48 + v % 10) h (by omega) (by omega)) ?_
                  rintro _ P1 ⟨rfl, m1, t1, f1⟩
                  refine sEn (i := .return_) rfl (rfl) ?_
                  have e0 : 48 + v % 10 = 48 + v := by
                    omega
                  refine ⟨rfl, _, ?_, f1⟩
                  have tt := t1
                  rw [e0] at tt
                  exact ⟨tt.1, Nat.le_trans tt.2 (by omega)⟩
                · exact absurd c7 (by decide)
              · have c6 := c6
                exfalso
                omega
          · have c4 := c4
            exfalso
            omega
      · have c2 := c2
        exfalso
        omega
  · rw [if_neg q1]
    by_cases q2 : v < 100
    · rw [if_pos q2]
      refine sIni (ls := [some (.ref 177), some (.int (iI ((v : Nat) : Int))), none]) rfl ?_
      refine sKs (p := 3) rfl rfl ?_
      refine sL (pc' := 4) (i := .istore_n 2) (ls' := [some (.ref 177), some (.int (iI ((v : Nat) : Int))), some (.int (iI 1000))]) rfl rfl ?_
      refine sL (pc' := 5) (i := .iload_n 2) rfl rfl ?_
      refine sKi (p := 6) rfl rfl ?_
      refine sIc_le (p := 9) rfl rfl ⟨by omega, by omega⟩ ⟨by omega, by omega⟩ (fun c1 => ?_) (fun c1 => ?_)
      · exact absurd c1 (by decide)
      · have c1 := c1
        refine sL (pc' := 10) (i := .iload_n 1) rfl rfl ?_
        refine sL (pc' := 11) (i := .iload_n 2) rfl rfl ?_
        refine sIc_lt (p := 14) rfl rfl ⟨by omega, by omega⟩ ⟨by omega, by omega⟩ (fun c2 => ?_) (fun c2 => ?_)
        · have c2 := c2
          refine sL (pc' := 28) (i := .iload_n 2) rfl rfl ?_
          refine sKb (p := 30) rfl rfl ?_
          refine sDv (p := 31) rfl rfl ⟨by omega, by omega⟩ ⟨by omega, by omega⟩ ?_
          rw [show ((1000 / 10) : Int) = 100 from by decide]
          refine sL (pc' := 32) (i := .istore_n 2) (ls' := [some (.ref 177), some (.int (iI ((v : Nat) : Int))), some (.int (iI 100))]) rfl rfl ?_
          refine sL (i := .goto (-28)) rfl rfl ?_
          refine sL (pc' := 5) (i := .iload_n 2) rfl rfl ?_
          refine sKi (p := 6) rfl rfl ?_
          refine sIc_le (p := 9) rfl rfl ⟨by omega, by omega⟩ ⟨by omega, by omega⟩ (fun c3 => ?_) (fun c3 => ?_)
          · exact absurd c3 (by decide)
          · have c3 := c3
            refine sL (pc' := 10) (i := .iload_n 1) rfl rfl ?_
            refine sL (pc' := 11) (i := .iload_n 2) rfl rfl ?_
            refine sIc_lt (p := 14) rfl rfl ⟨by omega, by omega⟩ ⟨by omega, by omega⟩ (fun c4 => ?_) (fun c4 => ?_)
            · have c4 := c4
              refine sL (pc' := 28) (i := .iload_n 2) rfl rfl ?_
              refine sKb (p := 30) rfl rfl ?_
              refine sDv (p := 31) rfl rfl ⟨by omega, by omega⟩ ⟨by omega, by omega⟩ ?_
              rw [show ((100 / 10) : Int) = 10 from by decide]
              refine sL (pc' := 32) (i := .istore_n 2) (ls' := [some (.ref 177), some (.int (iI ((v : Nat) : Int))), some (.int (iI 10))]) rfl rfl ?_
              refine sL (i := .goto (-28)) rfl rfl ?_
              refine sL (pc' := 5) (i := .iload_n 2) rfl rfl ?_
              refine sKi (p := 6) rfl rfl ?_
              refine sIc_le (p := 9) rfl rfl ⟨by omega, by omega⟩ ⟨by omega, by omega⟩ (fun c5 => ?_) (fun c5 => ?_)
              · exact absurd c5 (by decide)
              · have c5 := c5
                refine sL (pc' := 10) (i := .iload_n 1) rfl rfl ?_
                refine sL (pc' := 11) (i := .iload_n 2) rfl rfl ?_
                refine sIc_lt (p := 14) rfl rfl ⟨by omega, by omega⟩ ⟨by omega, by omega⟩ (fun c6 => ?_) (fun c6 => ?_)
                · have c6 := c6
                  exfalso
                  omega
                · have c6 := c6
                  refine sL (pc' := 15) (i := .aload_n 0) rfl rfl ?_
                  refine sKb (p := 17) rfl rfl ?_
                  refine sL (pc' := 18) (i := .iload_n 1) rfl rfl ?_
                  refine sL (pc' := 19) (i := .iload_n 2) rfl rfl ?_
                  refine sDv (p := 20) rfl rfl ⟨by omega, by omega⟩ ⟨by omega, by omega⟩ ?_
                  refine sKb (p := 22) rfl rfl ?_
                  refine sRm (p := 23) rfl rfl ⟨by omega, by omega⟩ ⟨by omega, by omega⟩ ?_
                  refine sAd (p := 24) rfl rfl ?_
                  rw [show ((48 + ((((v : Nat) : Int) / 10) % 10)) : Int) = ((48 + v / 10 % 10 : Nat) : Int) from by omega]
                  refine sCvQ (p := 27) (as := [_]) rfl rfl rfl rfl (by decide) (Nat.le_of_ble_eq_true rfl) rfl (Nat.le_of_ble_eq_true rfl) (sk_177 _) rfl (by omega) (b_app (c := 48 + v / 10 % 10) h (by omega) (by omega)) ?_
                  rintro _ P1 ⟨rfl, m1, t1, f1⟩
                  refine sL (pc' := 28) (i := .iload_n 2) rfl rfl ?_
                  refine sKb (p := 30) rfl rfl ?_
                  refine sDv (p := 31) rfl rfl ⟨by omega, by omega⟩ ⟨by omega, by omega⟩ ?_
                  rw [show ((10 / 10) : Int) = 1 from by decide]
                  refine sL (pc' := 32) (i := .istore_n 2) (ls' := [some (.ref 177), some (.int (iI ((v : Nat) : Int))), some (.int (iI 1))]) rfl rfl ?_
                  refine sL (i := .goto (-28)) rfl rfl ?_
                  refine sL (pc' := 5) (i := .iload_n 2) rfl rfl ?_
                  refine sKi (p := 6) rfl rfl ?_
                  refine sIc_le (p := 9) rfl rfl ⟨by omega, by omega⟩ ⟨by omega, by omega⟩ (fun c7 => ?_) (fun c7 => ?_)
                  · have c7 := c7
                    refine sL (pc' := 36) (i := .aload_n 0) rfl rfl ?_
                    refine sKb (p := 38) rfl rfl ?_
                    refine sL (pc' := 39) (i := .iload_n 1) rfl rfl ?_
                    refine sKb (p := 41) rfl rfl ?_
                    refine sRm (p := 42) rfl rfl ⟨by omega, by omega⟩ ⟨by omega, by omega⟩ ?_
                    refine sAd (p := 43) rfl rfl ?_
                    rw [show ((48 + (((v : Nat) : Int) % 10)) : Int) = ((48 + v % 10 : Nat) : Int) from by omega]
                    refine sCvQ (p := 46) (as := [_]) rfl rfl rfl rfl (by decide) (Nat.le_of_ble_eq_true rfl) rfl (Nat.le_of_ble_eq_true rfl) (sk_177 _) rfl (by omega) (b_app (c := 48 + v % 10) t1 (by omega) (by omega)) ?_
                    rintro _ P2 ⟨rfl, m2, t2, f2⟩
                    refine sEn (i := .return_) rfl (rfl) ?_
                    have e0 : 48 + v / 10 % 10 = 48 + v / 10 ∧ 48 + v % 10 = 48 + v % 10 := by
                      omega
                    refine ⟨rfl, _, ?_, frU_trans f1 f2⟩
                    have tt := t2
                    rw [List.append_assoc] at tt
                    rw [e0.1] at tt
                    exact ⟨tt.1, Nat.le_trans tt.2 (by omega)⟩
                  · exact absurd c7 (by decide)
            · have c4 := c4
              exfalso
              omega
        · have c2 := c2
          exfalso
          omega
    · rw [if_neg q2]
      refine sIni (ls := [some (.ref 177), some (.int (iI ((v : Nat) : Int))), none]) rfl ?_
      refine sKs (p := 3) rfl rfl ?_
      refine sL (pc' := 4) (i := .istore_n 2) (ls' := [some (.ref 177), some (.int (iI ((v : Nat) : Int))), some (.int (iI 1000))]) rfl rfl ?_
      refine sL (pc' := 5) (i := .iload_n 2) rfl rfl ?_
      refine sKi (p := 6) rfl rfl ?_
      refine sIc_le (p := 9) rfl rfl ⟨by omega, by omega⟩ ⟨by omega, by omega⟩ (fun c1 => ?_) (fun c1 => ?_)
      · exact absurd c1 (by decide)
      · have c1 := c1
        refine sL (pc' := 10) (i := .iload_n 1) rfl rfl ?_
        refine sL (pc' := 11) (i := .iload_n 2) rfl rfl ?_
        refine sIc_lt (p := 14) rfl rfl ⟨by omega, by omega⟩ ⟨by omega, by omega⟩ (fun c2 => ?_) (fun c2 => ?_)
        · have c2 := c2
          refine sL (pc' := 28) (i := .iload_n 2) rfl rfl ?_
          refine sKb (p := 30) rfl rfl ?_
          refine sDv (p := 31) rfl rfl ⟨by omega, by omega⟩ ⟨by omega, by omega⟩ ?_
          rw [show ((1000 / 10) : Int) = 100 from by decide]
          refine sL (pc' := 32) (i := .istore_n 2) (ls' := [some (.ref 177), some (.int (iI ((v : Nat) : Int))), some (.int (iI 100))]) rfl rfl ?_
          refine sL (i := .goto (-28)) rfl rfl ?_
          refine sL (pc' := 5) (i := .iload_n 2) rfl rfl ?_
          refine sKi (p := 6) rfl rfl ?_
          refine sIc_le (p := 9) rfl rfl ⟨by omega, by omega⟩ ⟨by omega, by omega⟩ (fun c3 => ?_) (fun c3 => ?_)
          · exact absurd c3 (by decide)
          · have c3 := c3
            refine sL (pc' := 10) (i := .iload_n 1) rfl rfl ?_
            refine sL (pc' := 11) (i := .iload_n 2) rfl rfl ?_
            refine sIc_lt (p := 14) rfl rfl ⟨by omega, by omega⟩ ⟨by omega, by omega⟩ (fun c4 => ?_) (fun c4 => ?_)
            · have c4 := c4
              exfalso
              omega
            · have c4 := c4
              refine sL (pc' := 15) (i := .aload_n 0) rfl rfl ?_
              refine sKb (p := 17) rfl rfl ?_
              refine sL (pc' := 18) (i := .iload_n 1) rfl rfl ?_
              refine sL (pc' := 19) (i := .iload_n 2) rfl rfl ?_
              refine sDv (p := 20) rfl rfl ⟨by omega, by omega⟩ ⟨by omega, by omega⟩ ?_
              refine sKb (p := 22) rfl rfl ?_
              refine sRm (p := 23) rfl rfl ⟨by omega, by omega⟩ ⟨by omega, by omega⟩ ?_
              refine sAd (p := 24) rfl rfl ?_
              rw [show ((48 + ((((v : Nat) : Int) / 100) % 10)) : Int) = ((48 + v / 100 % 10 : Nat) : Int) from by omega]
              refine sCvQ (p := 27) (as := [_]) rfl rfl rfl rfl (by decide) (Nat.le_of_ble_eq_true rfl) rfl (Nat.le_of_ble_eq_true rfl) (sk_177 _) rfl (by omega) (b_app (c := 48 + v / 100 % 10) h (by omega) (by omega)) ?_
              rintro _ P1 ⟨rfl, m1, t1, f1⟩
              refine sL (pc' := 28) (i := .iload_n 2) rfl rfl ?_
              refine sKb (p := 30) rfl rfl ?_
              refine sDv (p := 31) rfl rfl ⟨by omega, by omega⟩ ⟨by omega, by omega⟩ ?_
              rw [show ((100 / 10) : Int) = 10 from by decide]
              refine sL (pc' := 32) (i := .istore_n 2) (ls' := [some (.ref 177), some (.int (iI ((v : Nat) : Int))), some (.int (iI 10))]) rfl rfl ?_
              refine sL (i := .goto (-28)) rfl rfl ?_
              refine sL (pc' := 5) (i := .iload_n 2) rfl rfl ?_
              refine sKi (p := 6) rfl rfl ?_
              refine sIc_le (p := 9) rfl rfl ⟨by omega, by omega⟩ ⟨by omega, by omega⟩ (fun c5 => ?_) (fun c5 => ?_)
              · exact absurd c5 (by decide)
              · have c5 := c5
                refine sL (pc' := 10) (i := .iload_n 1) rfl rfl ?_
                refine sL (pc' := 11) (i := .iload_n 2) rfl rfl ?_
                refine sIc_lt (p := 14) rfl rfl ⟨by omega, by omega⟩ ⟨by omega, by omega⟩ (fun c6 => ?_) (fun c6 => ?_)
                · have c6 := c6
                  exfalso
                  omega
                · have c6 := c6
                  refine sL (pc' := 15) (i := .aload_n 0) rfl rfl ?_
                  refine sKb (p := 17) rfl rfl ?_
                  refine sL (pc' := 18) (i := .iload_n 1) rfl rfl ?_
                  refine sL (pc' := 19) (i := .iload_n 2) rfl rfl ?_
                  refine sDv (p := 20) rfl rfl ⟨by omega, by omega⟩ ⟨by omega, by omega⟩ ?_
                  refine sKb (p := 22) rfl rfl ?_
                  refine sRm (p := 23) rfl rfl ⟨by omega, by omega⟩ ⟨by omega, by omega⟩ ?_
                  refine sAd (p := 24) rfl rfl ?_
                  rw [show ((48 + ((((v : Nat) : Int) / 10) % 10)) : Int) = ((48 + v / 10 % 10 : Nat) : Int) from by omega]
                  refine sCvQ (p := 27) (as := [_]) rfl rfl rfl rfl (by decide) (Nat.le_of_ble_eq_true rfl) rfl (Nat.le_of_ble_eq_true rfl) (sk_177 _) rfl (by omega) (b_app (c := 48 + v / 10 % 10) t1 (by omega) (by omega)) ?_
                  rintro _ P2 ⟨rfl, m2, t2, f2⟩
                  refine sL (pc' := 28) (i := .iload_n 2) rfl rfl ?_
                  refine sKb (p := 30) rfl rfl ?_
                  refine sDv (p := 31) rfl rfl ⟨by omega, by omega⟩ ⟨by omega, by omega⟩ ?_
                  rw [show ((10 / 10) : Int) = 1 from by decide]
                  refine sL (pc' := 32) (i := .istore_n 2) (ls' := [some (.ref 177), some (.int (iI ((v : Nat) : Int))), some (.int (iI 1))]) rfl rfl ?_
                  refine sL (i := .goto (-28)) rfl rfl ?_
                  refine sL (pc' := 5) (i := .iload_n 2) rfl rfl ?_
                  refine sKi (p := 6) rfl rfl ?_
                  refine sIc_le (p := 9) rfl rfl ⟨by omega, by omega⟩ ⟨by omega, by omega⟩ (fun c7 => ?_) (fun c7 => ?_)
                  · have c7 := c7
                    refine sL (pc' := 36) (i := .aload_n 0) rfl rfl ?_
                    refine sKb (p := 38) rfl rfl ?_
                    refine sL (pc' := 39) (i := .iload_n 1) rfl rfl ?_
                    refine sKb (p := 41) rfl rfl ?_
                    refine sRm (p := 42) rfl rfl ⟨by omega, by omega⟩ ⟨by omega, by omega⟩ ?_
                    refine sAd (p := 43) rfl rfl ?_
                    rw [show ((48 + (((v : Nat) : Int) % 10)) : Int) = ((48 + v % 10 : Nat) : Int) from by omega]
                    refine sCvQ (p := 46) (as := [_]) rfl rfl rfl rfl (by decide) (Nat.le_of_ble_eq_true rfl) rfl (Nat.le_of_ble_eq_true rfl) (sk_177 _) rfl (by omega) (b_app (c := 48 + v % 10) t2 (by omega) (by omega)) ?_
                    rintro _ P3 ⟨rfl, m3, t3, f3⟩
                    refine sEn (i := .return_) rfl (rfl) ?_
                    have e0 : 48 + v / 100 % 10 = 48 + v / 100 ∧ 48 + v / 10 % 10 = 48 + v / 10 % 10 ∧ 48 + v % 10 = 48 + v % 10 := by
                      omega
                    refine ⟨rfl, _, ?_, frU_trans f1 (frU_trans f2 f3)⟩
                    have tt := t3
                    rw [List.append_assoc, List.append_assoc] at tt
                    rw [e0.1] at tt
                    exact ⟨tt.1, Nat.le_trans tt.2 (by omega)⟩
                  · exact absurd c7 (by decide)
        · have c2 := c2
          exfalso
          omega
theorem U_I {S' : ST} {m' c : Nat} (h : frU S S' m m') (hc : c < 177 ∨ 178 < c) : SI S' c = SI S c := h.2.1 c (by omega) (by omega)
theorem dA_U {S' : ST} {m' : Nat} (hA : dA S b R) (h : frU S S' m m') : dA S' b R := by
  obtain ⟨ht, -, -, h4, -⟩ := h
  obtain ⟨a1, a2, a3, a4, a5, a6, a7, a8, a9, k0, k1, k2, k3, k4, k5⟩ := hA
  exact ⟨a1, a2, a3, by rw [h4]; exact a4, by rw [h4]; exact a5, by rw [h4]; exact a6, by rw [h4]; exact a7, by rw [h4]; exact a8, by rw [h4]; exact a9, (kd_cg ht _).trans k0, (kd_cg ht _).trans k1, (kd_cg ht _).trans k2, (kd_cg ht _).trans k3, (kd_cg ht _).trans k4, (kd_cg ht _).trans k5⟩
theorem vC_U {S' : ST} {m' : Nat} (hv : vC S n sz) (h : frU S S' m m') : vC S' n sz := by
  unfold vC at *
  rw [U_I h (by omega : 1 < 177 ∨ 178 < 1), U_I h (by omega : 2 < 177 ∨ 178 < 2), U_I h (by omega : 3 < 177 ∨ 178 < 3)]
  exact hv
theorem c_writeNode {x j v bb : Nat} {kk cd : Nat → Nat} (hvC : vC S n sz) (hA : dA S b R) (hx : x < R) (hj : j + 2 < 1000) (hnu : SI S (b + 3) x = ((j + 2 : Nat) : Int)) (hv : SI S b x = ((v : Nat) : Int)) (hvn : v < n)
  (hk : ∀ k, k < sz v → SI S (b + 5) (x * 6 + k) = ((kk k : Nat) : Int) ∧ kk k < R ∧ (kk k ≤ 1 → cd k = kk k) ∧ (1 < kk k → SI S (b + 3) (kk k) = ((cd k : Nat) : Int)) ∧ cd k < 1000) (hs : sbT S L bb m) (hb : bb + 8 + 4 * sz v ≤ 8192) :
  sM X 3 52 [.ref 52, .int (iI ((x : Nat) : Int)), .ref 177] S (fun r S' => r = none ∧ ∃ m', sbT S' (L ++ dgt (j + 2) ++ [58] ++ dgt v ++ kdT cd (sz v) ++ [41]) (bb + 8 + 4 * sz v) m' ∧ frU S S' m m') := by
  have hsv := hvC.1.2.1 v hvn
  have hn10 := hvC.1.1
  have hb58 := hA.1
  have hR1 := hA.2.1
  have hR2 := hA.2.2.1
  have hA0 := hA
  have hs0 := hs
  have r0 : ∀ {T : ST} {m1 : Nat}, frU S T m m1 → SI T b = SI S b := fun h => U_I h (by omega)
  have r3 : ∀ {T : ST} {m1 : Nat}, frU S T m m1 → SI T (b + 3) = SI S (b + 3) := fun h => U_I h (by omega)
  have r5 : ∀ {T : ST} {m1 : Nat}, frU S T m m1 → SI T (b + 5) = SI S (b + 5) := fun h => U_I h (by omega)
  obtain ⟨S0, hS0⟩ : ∃ S0, S0 = S := ⟨_, rfl⟩
  refine sIni (ls := [some (.ref 52), some (.int (iI ((x : Nat) : Int))), some (.ref 177), none, none]) rfl ?_
  refine sL (pc' := 1) (i := .aload_n 2) rfl rfl ?_
  refine sL (pc' := 2) (i := .aload_n 0) rfl rfl ?_
  refine sGr (p := 5) rfl rfl (sk_52 _) rfl rfl rfl hA.2.2.2.2.2.2.1 ?_
  refine sL (pc' := 6) (i := .iload_n 1) rfl rfl ?_
  refine sAi (p := 7) (i := x) rfl rfl hA.2.2.2.2.2.2.2.2.2.2.2.2.1 (by omega) ⟨by omega, by omega⟩ ((congrFun (r3 (frU_refl S m)) _).trans hnu) ?_
  refine sCvQ (p := 10) (as := [_]) rfl rfl rfl rfl (by decide) (Nat.le_of_ble_eq_true rfl) rfl (Nat.le_of_ble_eq_true rfl) (sk_177 _) rfl (by omega) (sM.deeper (b_num (v := j + 2) (by omega) hs (by omega)) (d' := 2) (by decide)) ?_
  rintro _ P1 ⟨rfl, m1, t1, f1⟩
  have u1 := frU_trans (frU_refl S m) f1
  refine sL (pc' := 11) (i := .aload_n 2) rfl rfl ?_
  refine sKb (p := 13) rfl rfl ?_
  refine sCvQ (p := 16) (as := [_]) rfl rfl rfl rfl (by decide) (Nat.le_of_ble_eq_true rfl) rfl (Nat.le_of_ble_eq_true rfl) (sk_177 _) rfl (by omega) (sM.deeper (b_app (c := 58) t1 (by omega) (by omega)) (d' := 2) (by decide)) ?_
  rintro _ P2 ⟨rfl, m2, t2, f2⟩
  have u2 := frU_trans u1 f2
  refine sL (pc' := 17) (i := .aload_n 2) rfl rfl ?_
  refine sL (pc' := 18) (i := .aload_n 0) rfl rfl ?_
  refine sGr (p := 21) rfl rfl (sk_52 _) rfl rfl rfl (dA_U hA u2).2.2.2.1 ?_
  refine sL (pc' := 22) (i := .iload_n 1) rfl rfl ?_
  refine sAi (p := 23) (i := x) rfl rfl (dA_U hA u2).2.2.2.2.2.2.2.2.2.1 (by omega) ⟨by omega, by omega⟩ ((congrFun (r0 u2) _).trans hv) ?_
  refine sCvQ (p := 26) (as := [_]) rfl rfl rfl rfl (by decide) (Nat.le_of_ble_eq_true rfl) rfl (Nat.le_of_ble_eq_true rfl) (sk_177 _) rfl (by omega) (sM.deeper (b_num (v := v) (by omega) t2 (by omega)) (d' := 2) (by decide)) ?_
  rintro _ P3 ⟨rfl, m3, t3, f3⟩
  have u3 := frU_trans u2 f3
  refine sKi (p := 27) rfl rfl ?_
  refine sL (pc' := 28) (i := .istore_n 3) (ls' := [some (.ref 52), some (.int (iI ((x : Nat) : Int))), some (.ref 177), some (.int (iI 0)), none]) rfl rfl ?_
  refine sItR (A := fun k => [some (.ref 52), some (.int (iI ((x : Nat) : Int))), some (.ref 177), some (.int (iI ((k : Nat) : Int))), none]) (fun k S => ∃ mk, sbT S ((L ++ dgt (j + 2) ++ [58] ++ dgt v) ++ kdT cd k) (bb + 3 + 1 + 3 + 4 * k) mk ∧ frU S0 S m mk) (sz v) (⟨_, by rw [show kdT cd 0 = [] from rfl, List.append_nil]; exact ⟨t3.1, Nat.le_trans t3.2 (by omega)⟩, by rw [hS0]; exact u3⟩) (fun k hi28 Sk hJ28 ih28 => ?_) (fun Skf hJ28 => ?_)
  · have hi28 := hi28
    obtain ⟨mk, hJ28t, hJ28u⟩ := hJ28
    rw [hS0] at hJ28u
    obtain ⟨hk1, hk2, hk3, hk4, hk5⟩ := hk k hi28
    refine sL (pc' := 29) (i := .iload_n 3) rfl rfl ?_
    refine sL (pc' := 30) (i := .aload_n 0) rfl rfl ?_
    refine sGc (p := 33) rfl rfl (sk_52 _) rfl rfl rfl ?_
    refine sL (pc' := 34) (i := .aload_n 0) rfl rfl ?_
    refine sGr (p := 37) rfl rfl (sk_52 _) rfl rfl rfl (dA_U hA hJ28u).2.2.2.1 ?_
    refine sL (pc' := 38) (i := .iload_n 1) rfl rfl ?_
    refine sAi (p := 39) (i := x) rfl rfl (dA_U hA hJ28u).2.2.2.2.2.2.2.2.2.1 (by omega) ⟨by omega, by omega⟩ ((congrFun (r0 hJ28u) _).trans hv) ?_
    refine sCv (p := 42) (as := [_]) rfl rfl rfl rfl (by decide) (Nat.le_of_ble_eq_true rfl) rfl (Nat.le_of_ble_eq_true rfl) (sk_1 _) rfl (by omega) (c_siz (vC_U hvC hJ28u) hvn) ?_
    refine sIc_ge (p := 45) rfl rfl ⟨by omega, by omega⟩ ⟨by omega, by omega⟩ (fun c1 => ?_) (fun c1 => ?_)
    · exfalso; omega
    · have c1 := c1
      refine sL (pc' := 46) (i := .aload_n 0) rfl rfl ?_
      refine sGr (p := 49) rfl rfl (sk_52 _) rfl rfl rfl (dA_U hA hJ28u).2.2.2.2.2.2.2.2.1 ?_
      refine sL (pc' := 50) (i := .iload_n 1) rfl rfl ?_
      refine sKb (p := 52) rfl rfl ?_
      refine sMu (p := 53) rfl rfl ?_
      refine sL (pc' := 54) (i := .iload_n 3) rfl rfl ?_
      refine sAd (p := 55) rfl rfl ?_
      refine sAi (p := 56) (i := x * 6 + k) rfl rfl (dA_U hA hJ28u).2.2.2.2.2.2.2.2.2.2.2.2.2.2 (by omega) ⟨by omega, by omega⟩ ((congrFun (r5 hJ28u) _).trans hk1) ?_
      refine sL (pc' := 58) (i := .istore 4) (ls' := [some (.ref 52), some (.int (iI ((x : Nat) : Int))), some (.ref 177), some (.int (iI ((k : Nat) : Int))), some (.int (iI ((kk k : Nat) : Int)))]) rfl rfl ?_
      refine sL (pc' := 59) (i := .aload_n 2) rfl rfl ?_
      refine sL (pc' := 60) (i := .iload_n 3) rfl rfl ?_
      refine sIf_ne (p := 63) rfl rfl ⟨by omega, by omega⟩ (fun c2 => ?_) (fun c2 => ?_)
      · have c2 := c2
        refine sKb (p := 70) rfl rfl ?_
        refine sCvQ (p := 73) (as := [_]) rfl rfl rfl rfl (by decide) (Nat.le_of_ble_eq_true rfl) rfl (Nat.le_of_ble_eq_true rfl) (sk_177 _) rfl (by omega) (sM.deeper (b_app (c := 44) hJ28t (by omega) (by omega)) (d' := 2) (by decide)) ?_
        rintro _ P4 ⟨rfl, m4, t4, f4⟩
        have u4 := frU_trans hJ28u f4
        refine sL (pc' := 74) (i := .aload_n 2) rfl rfl ?_
        refine sL (pc' := 76) (i := .iload 4) rfl rfl ?_
        refine sKi (p := 77) rfl rfl ?_
        refine sIc_gt (p := 80) rfl rfl ⟨by omega, by omega⟩ ⟨by omega, by omega⟩ (fun c3 => ?_) (fun c3 => ?_)
        · have c3 := c3
          refine sL (pc' := 86) (i := .aload_n 0) rfl rfl ?_
          refine sGr (p := 89) rfl rfl (sk_52 _) rfl rfl rfl (dA_U hA u4).2.2.2.2.2.2.1 ?_
          refine sL (pc' := 91) (i := .iload 4) rfl rfl ?_
          refine sAi (p := 92) (i := kk k) rfl rfl (dA_U hA u4).2.2.2.2.2.2.2.2.2.2.2.2.1 (by omega) ⟨by omega, by omega⟩ ((congrFun (r3 u4) _).trans (hk4 (by omega))) ?_
          refine sCvQ (p := 95) (as := [_]) rfl rfl rfl rfl (by decide) (Nat.le_of_ble_eq_true rfl) rfl (Nat.le_of_ble_eq_true rfl) (sk_177 _) rfl (by omega) (sM.deeper (b_num (v := cd k) (by omega) t4 (by omega)) (d' := 2) (by decide)) ?_
          rintro _ P5 ⟨rfl, m5, t5, f5⟩
          have u5 := frU_trans u4 f5
          refine sInX (z := ((k : Nat) : Int)) (ls' := [some (.ref 52), some (.int (iI ((x : Nat) : Int))), some (.ref 177), some (.int (iI (((k : Nat) : Int) + 1))), some (.int (iI ((kk k : Nat) : Int)))]) (p := 98) rfl rfl (Nat.le_of_ble_eq_true rfl) rfl rfl ?_
          refine sL (i := .goto (-70)) rfl rfl ?_
          refine sFg (ls := [some (.ref 52), some (.int (iI ((x : Nat) : Int))), some (.ref 177), some (.int (iI ((k + 1 : Nat) : Int))), none]) (xx_ll_le (And.intro rfl (And.intro rfl (And.intro rfl (And.intro rfl (True.intro)))))) (ih28 _ ?_)
          refine ⟨_, ?_, by rw [hS0]; exact u5⟩
          have tt := t5
          rw [show kdT cd (k + 1) = kdT cd k ++ [if k = 0 then 40 else 44] ++ dgt (cd k) from rfl, if_neg (by omega), ← List.append_assoc, ← List.append_assoc]
          exact ⟨tt.1, Nat.le_trans tt.2 (by omega)⟩
        · have c3 := c3
          have e4 := hk3 (by omega)
          rw [← e4]
          refine sL (pc' := 82) (i := .iload 4) rfl rfl ?_
          refine sL (i := .goto 10) rfl rfl ?_
          refine sCvQ (p := 95) (as := [_]) rfl rfl rfl rfl (by decide) (Nat.le_of_ble_eq_true rfl) rfl (Nat.le_of_ble_eq_true rfl) (sk_177 _) rfl (by omega) (sM.deeper (b_num (v := cd k) (by omega) t4 (by omega)) (d' := 2) (by decide)) ?_
          rintro _ P6 ⟨rfl, m6, t6, f6⟩
          have u6 := frU_trans u4 f6
          refine sInX (z := ((k : Nat) : Int)) (ls' := [some (.ref 52), some (.int (iI ((x : Nat) : Int))), some (.ref 177), some (.int (iI (((k : Nat) : Int) + 1))), some (.int (iI ((cd k : Nat) : Int)))]) (p := 98) rfl rfl (Nat.le_of_ble_eq_true rfl) rfl rfl ?_
          refine sL (i := .goto (-70)) rfl rfl ?_
          refine sFg (ls := [some (.ref 52), some (.int (iI ((x : Nat) : Int))), some (.ref 177), some (.int (iI ((k + 1 : Nat) : Int))), none]) (xx_ll_le (And.intro rfl (And.intro rfl (And.intro rfl (And.intro rfl (True.intro)))))) (ih28 _ ?_)
          refine ⟨_, ?_, by rw [hS0]; exact u6⟩
          have tt := t6
          rw [show kdT cd (k + 1) = kdT cd k ++ [if k = 0 then 40 else 44] ++ dgt (cd k) from rfl, if_neg (by omega), ← List.append_assoc, ← List.append_assoc]
          exact ⟨tt.1, Nat.le_trans tt.2 (by omega)⟩
      · have c2 := c2
        refine sKb (p := 65) rfl rfl ?_
        refine sL (i := .goto 5) rfl rfl ?_
        refine sCvQ (p := 73) (as := [_]) rfl rfl rfl rfl (by decide) (Nat.le_of_ble_eq_true rfl) rfl (Nat.le_of_ble_eq_true rfl) (sk_177 _) rfl (by omega) (sM.deeper (b_app (c := 40) hJ28t (by omega) (by omega)) (d' := 2) (by decide)) ?_
        rintro _ P7 ⟨rfl, m7, t7, f7⟩
        have u7 := frU_trans hJ28u f7
        refine sL (pc' := 74) (i := .aload_n 2) rfl rfl ?_
        refine sL (pc' := 76) (i := .iload 4) rfl rfl ?_
        refine sKi (p := 77) rfl rfl ?_
        refine sIc_gt (p := 80) rfl rfl ⟨by omega, by omega⟩ ⟨by omega, by omega⟩ (fun c4 => ?_) (fun c4 => ?_)
        · have c4 := c4
          refine sL (pc' := 86) (i := .aload_n 0) rfl rfl ?_
          refine sGr (p := 89) rfl rfl (sk_52 _) rfl rfl rfl (dA_U hA u7).2.2.2.2.2.2.1 ?_
          refine sL (pc' := 91) (i := .iload 4) rfl rfl ?_
          refine sAi (p := 92) (i := kk k) rfl rfl (dA_U hA u7).2.2.2.2.2.2.2.2.2.2.2.2.1 (by omega) ⟨by omega, by omega⟩ ((congrFun (r3 u7) _).trans (hk4 (by omega))) ?_
          refine sCvQ (p := 95) (as := [_]) rfl rfl rfl rfl (by decide) (Nat.le_of_ble_eq_true rfl) rfl (Nat.le_of_ble_eq_true rfl) (sk_177 _) rfl (by omega) (sM.deeper (b_num (v := cd k) (by omega) t7 (by omega)) (d' := 2) (by decide)) ?_
          rintro _ P8 ⟨rfl, m8, t8, f8⟩
          have u8 := frU_trans u7 f8
          refine sInX (z := ((k : Nat) : Int)) (ls' := [some (.ref 52), some (.int (iI ((x : Nat) : Int))), some (.ref 177), some (.int (iI (((k : Nat) : Int) + 1))), some (.int (iI ((kk k : Nat) : Int)))]) (p := 98) rfl rfl (Nat.le_of_ble_eq_true rfl) rfl rfl ?_
          refine sL (i := .goto (-70)) rfl rfl ?_
          refine sFg (ls := [some (.ref 52), some (.int (iI ((x : Nat) : Int))), some (.ref 177), some (.int (iI ((k + 1 : Nat) : Int))), none]) (xx_ll_le (And.intro rfl (And.intro rfl (And.intro rfl (And.intro rfl (True.intro)))))) (ih28 _ ?_)
          refine ⟨_, ?_, by rw [hS0]; exact u8⟩
          have tt := t8
          rw [show kdT cd (k + 1) = kdT cd k ++ [if k = 0 then 40 else 44] ++ dgt (cd k) from rfl, if_pos (by omega), ← List.append_assoc, ← List.append_assoc]
          exact ⟨tt.1, Nat.le_trans tt.2 (by omega)⟩
        · have c4 := c4
          have e4 := hk3 (by omega)
          rw [← e4]
          refine sL (pc' := 82) (i := .iload 4) rfl rfl ?_
          refine sL (i := .goto 10) rfl rfl ?_
          refine sCvQ (p := 95) (as := [_]) rfl rfl rfl rfl (by decide) (Nat.le_of_ble_eq_true rfl) rfl (Nat.le_of_ble_eq_true rfl) (sk_177 _) rfl (by omega) (sM.deeper (b_num (v := cd k) (by omega) t7 (by omega)) (d' := 2) (by decide)) ?_
          rintro _ P9 ⟨rfl, m9, t9, f9⟩
          have u9 := frU_trans u7 f9
          refine sInX (z := ((k : Nat) : Int)) (ls' := [some (.ref 52), some (.int (iI ((x : Nat) : Int))), some (.ref 177), some (.int (iI (((k : Nat) : Int) + 1))), some (.int (iI ((cd k : Nat) : Int)))]) (p := 98) rfl rfl (Nat.le_of_ble_eq_true rfl) rfl rfl ?_
          refine sL (i := .goto (-70)) rfl rfl ?_
          refine sFg (ls := [some (.ref 52), some (.int (iI ((x : Nat) : Int))), some (.ref 177), some (.int (iI ((k + 1 : Nat) : Int))), none]) (xx_ll_le (And.intro rfl (And.intro rfl (And.intro rfl (And.intro rfl (True.intro)))))) (ih28 _ ?_)
          refine ⟨_, ?_, by rw [hS0]; exact u9⟩
          have tt := t9
          rw [show kdT cd (k + 1) = kdT cd k ++ [if k = 0 then 40 else 44] ++ dgt (cd k) from rfl, if_pos (by omega), ← List.append_assoc, ← List.append_assoc]
          exact ⟨tt.1, Nat.le_trans tt.2 (by omega)⟩
  · have hJ28 := hJ28
    obtain ⟨mk, hJ28t, hJ28u⟩ := hJ28
    rw [hS0] at hJ28u
    refine sL (pc' := 29) (i := .iload_n 3) rfl rfl ?_
    refine sL (pc' := 30) (i := .aload_n 0) rfl rfl ?_
    refine sGc (p := 33) rfl rfl (sk_52 _) rfl rfl rfl ?_
    refine sL (pc' := 34) (i := .aload_n 0) rfl rfl ?_
    refine sGr (p := 37) rfl rfl (sk_52 _) rfl rfl rfl (dA_U hA hJ28u).2.2.2.1 ?_
    refine sL (pc' := 38) (i := .iload_n 1) rfl rfl ?_
    refine sAi (p := 39) (i := x) rfl rfl (dA_U hA hJ28u).2.2.2.2.2.2.2.2.2.1 (by omega) ⟨by omega, by omega⟩ ((congrFun (r0 hJ28u) _).trans hv) ?_
    refine sCv (p := 42) (as := [_]) rfl rfl rfl rfl (by decide) (Nat.le_of_ble_eq_true rfl) rfl (Nat.le_of_ble_eq_true rfl) (sk_1 _) rfl (by omega) (c_siz (vC_U hvC hJ28u) hvn) ?_
    refine sIc_ge (p := 45) rfl rfl ⟨by omega, by omega⟩ ⟨by omega, by omega⟩ (fun c5 => ?_) (fun c5 => ?_)
    · have c5 := c5
      refine sL (pc' := 102) (i := .aload_n 2) rfl rfl ?_
      refine sKb (p := 104) rfl rfl ?_
      refine sCvQ (p := 107) (as := [_]) rfl rfl rfl rfl (by decide) (Nat.le_of_ble_eq_true rfl) rfl (Nat.le_of_ble_eq_true rfl) (sk_177 _) rfl (by omega) (sM.deeper (b_app (c := 41) hJ28t (by omega) (by omega)) (d' := 2) (by decide)) ?_
      rintro _ P10 ⟨rfl, m10, t10, f10⟩
      have u10 := frU_trans hJ28u f10
      refine sEn (i := .return_) rfl (rfl) ?_
      have tt := t10
      exact ⟨rfl, _, ⟨tt.1, Nat.le_trans tt.2 (by omega)⟩, u10⟩
    · exfalso; omega
end CA
