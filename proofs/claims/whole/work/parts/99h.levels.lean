/-! ===== the class's reader: operators ===== -/
def lit (T op : Nat) (f : Nat → Nat × Nat × (Nat → Bool)) (i : Nat) : Nat → Nat × Nat × (Nat → Bool)
  | 0 => f i
  | t + 1 => ((f ((lit T op f i t).2.1 + 1)).1, (f ((lit T op f i t).2.1 + 1)).2.1, fun r => jn op ((lit T op f i t).2.2 r) ((f ((lit T op f i t).2.1 + 1)).2.2 r) && decide (r < T))
def lgo (K : Nat → Nat) (k : Nat) (R : Nat × Nat × (Nat → Bool)) : Bool := decide (R.1 = 0 ∧ K R.2.1 = k)
def lnN (K : Nat → Nat) (T k op : Nat) (f : Nat → Nat × Nat × (Nat → Bool)) (i : Nat) : Nat := fbF (fun t => ! (lgo K k (lit T op f i t))) 400 0
/-- operands of a level, joined while the operator stands there -/
def lev (K : Nat → Nat) (T k op : Nat) (f : Nat → Nat × Nat × (Nat → Bool)) (i : Nat) : Nat × Nat × (Nat → Bool) := lit T op f i (lnN K T k op f i)
theorem lnN_ok (K : Nat → Nat) (T k op : Nat) (f : Nat → Nat × Nat × (Nat → Bool)) (i : Nat) : lnN K T k op f i ≤ 400 ∧ (∀ t, t < lnN K T k op f i → (lit T op f i t).1 = 0 ∧ K (lit T op f i t).2.1 = k) ∧ (lnN K T k op f i < 400 → ¬ ((lit T op f i (lnN K T k op f i)).1 = 0 ∧ K (lit T op f i (lnN K T k op f i)).2.1 = k)) := by
  have h := fbF_ok (fun t => ! (lgo K k (lit T op f i t))) 400 0
  rw [Nat.zero_add] at h
  refine ⟨h.1.2, fun t ht => ?_, fun hN z => ?_⟩
  · have h1 : (! (lgo K k (lit T op f i t))) = false := h.2.1 t (Nat.zero_le _) ht
    cases h2 : lgo K k (lit T op f i t) with
    | true => exact of_decide_eq_true h2
    | false =>
      rw [h2] at h1
      cases h1
  · have h1 : (! (lgo K k (lit T op f i (lnN K T k op f i)))) = true := h.2.2 hN
    rw [show lgo K k (lit T op f i (lnN K T k op f i)) = true from decide_eq_true z] at h1
    cases h1
/-- inverted where an arrow follows -/
def ivS (K : Nat → Nat) (T : Nat) (f : Nat → Nat × Nat × (Nat → Bool)) (i : Nat) : Nat × Nat × (Nat → Bool) := if (f i).1 = 0 ∧ K (f i).2.1 = 256 then (0, (f i).2.1, ivt T (f i).2.2) else f i
theorem ivS_1 (K : Nat → Nat) (T : Nat) (f : Nat → Nat × Nat × (Nat → Bool)) (i : Nat) : (ivS K T f i).1 = (f i).1 ∧ (ivS K T f i).2.1 = (f i).2.1 := by
  unfold ivS
  split
  · rename_i q
    exact ⟨q.1.symm, rfl⟩
  · exact ⟨rfl, rfl⟩
def subC (X : List Int32) (K A : Nat → Nat) (C : Nat → Int64) (m n : Nat) (sz : Nat → Nat) (fn dr : Nat) (Fn : Nat → Nat → Bool) (nm : Nat → Int64) (ds mt d B : Nat) (f : Nat → Nat × Nat × (Nat → Bool)) : Prop :=
  (∀ S i a, rdE S K A C m n sz fn dr Fn nm → rA S K i → i ≤ m → a ≤ B → sM X ds mt [.ref 69, .int (iI ((d : Nat) : Int)), .int (iI ((a : Nat) : Int))] S (oQ K A m a (f i) S)) ∧ ∀ S k p a, rdE S K A C m n sz fn dr Fn nm → rX S m k p → a ≤ B → sM X ds mt [.ref 69, .int (iI ((d : Nat) : Int)), .int (iI ((a : Nat) : Int))] S (xQ m a k p S)
section RO
variable {X : List Int32} {S : ST} {K A : Nat → Nat} {C : Nat → Int64} {m n fn dr : Nat} {sz : Nat → Nat} {Fn : Nat → Nat → Bool} {nm : Nat → Int64}
theorem l_Both {ds d B : Nat} {f : Nat → Nat × Nat × (Nat → Bool)} (hds : 3 ≤ ds) (hd : d ≤ 20) (hB : B + 1 ≤ 105) (hs : subC X K A C m n sz fn dr Fn nm ds 94 d (B + 1) f) : subC X K A C m n sz fn dr Fn nm (ds + 1) 93 d B (lev K (pr sz n) 38 0 f) := by
  refine ⟨fun S i a hE hA hi ha => ?_, fun S k p a hE hX ha => ?_⟩
  · have hm := hE.1.1
    have hK := hE.1.2.1
    obtain ⟨S0, hS0⟩ : ∃ S0, S0 = S := ⟨_, rfl⟩
    have hE0 : rdE S0 K A C m n sz fn dr Fn nm := by rw [hS0]; exact hE
    have hN := lnN_ok K (pr sz n) 38 0 f i
    show sM X (ds + 1) 93 _ S (oQ K A m a (lit (pr sz n) 0 f i (lnN K (pr sz n) 38 0 f i)) S)
    refine sIni (ls := [some (.ref 69), some (.int (iI ((d : Nat) : Int))), some (.int (iI ((a : Nat) : Int))), none]) rfl ?_
    refine sL (pc' := 1) (i := .aload_n 0) rfl rfl ?_
    refine sL (pc' := 2) (i := .iload_n 1) rfl rfl ?_
    refine sL (pc' := 3) (i := .iload_n 2) rfl rfl ?_
    refine sCvQ (p := 6) (as := [_, _]) rfl rfl rfl rfl (by decide) (Nat.le_of_ble_eq_true rfl) rfl (Nat.le_of_ble_eq_true rfl) (sk_69 _) rfl (by omega) (hs.1 S i a hE hA hi (by omega)) ?_
    rintro _ S1 ⟨rfl, hf1, hr1, hv1⟩
    rw [← hS0] at hf1
    refine sKi (p := 7) rfl rfl ?_
    refine sL (pc' := 8) (i := .istore_n 3) (ls' := [some (.ref 69), some (.int (iI ((d : Nat) : Int))), some (.int (iI ((a : Nat) : Int))), some (.int (iI 0))]) rfl rfl ?_
    refine sItR (A := fun t => [some (.ref 69), some (.int (iI ((d : Nat) : Int))), some (.int (iI ((a : Nat) : Int))), some (.int (iI ((t : Nat) : Int)))]) (fun t S => frR a S0 S ∧ rS S K A m (lit (pr sz n) 0 f i t).1 (lit (pr sz n) 0 f i t).2.1 ∧ ((lit (pr sz n) 0 f i t).1 = 0 → rowS S (71 + a) 0 (lit (pr sz n) 0 f i t).2.2)) (lnN K (pr sz n) 38 0 f i) (⟨hf1, hr1, hv1⟩) (fun t hi8 Sa hJ8 ih8 => ?_) (fun Saf hJ8 => ?_)
    · have hi8 := hi8
      obtain ⟨hfa, hra, hva⟩ := hJ8
      have hgo := hN.2.1 t hi8
      have hEa := rdE_fr hE0 hfa
      have hva1 := hva hgo.1
      obtain ⟨hia, hAa⟩ : (lit (pr sz n) 0 f i t).2.1 ≤ m ∧ rA Sa K (lit (pr sz n) 0 f i t).2.1 := by
        rcases hra with ⟨_, h1, h2⟩ | ⟨h1, _⟩
        · exact ⟨h1, h2⟩
        · exact absurd hgo.1 h1
      have hlt := rdE_i hEa hia (by omega) (by omega)
      refine sL (pc' := 9) (i := .iload_n 3) rfl rfl ?_
      refine sKs (p := 12) rfl rfl ?_
      refine sIc_ge (p := 15) rfl rfl ⟨by omega, by omega⟩ ⟨by omega, by omega⟩ (fun c1 => ?_) (fun c1 => ?_)
      · exfalso; omega
      · have c1 := c1
        refine sL (pc' := 16) (i := .aload_n 0) rfl rfl ?_
        refine sGi (p := 19) rfl rfl (sk_69 _) rfl rfl rfl hAa.2.1 ?_
        refine sKb (p := 21) rfl rfl ?_
        refine sIc_ne (p := 24) rfl rfl ⟨by omega, by omega⟩ ⟨by omega, by omega⟩ (fun c2 => ?_) (fun c2 => ?_)
        · exfalso; omega
        · have c2 := c2
          refine sL (pc' := 25) (i := .aload_n 0) rfl rfl ?_
          refine sCvQ (p := 28) (as := []) rfl rfl rfl rfl (by decide) (Nat.le_of_ble_eq_true rfl) rfl (Nat.le_of_ble_eq_true rfl) (sk_69 _) rfl (by omega) (c_advance hEa hAa hlt) ?_
          rintro _ Sb ⟨rfl, hAb, hfb⟩
          have hEb := rdE_fr hEa hfb
          refine sL (pc' := 29) (i := .aload_n 0) rfl rfl ?_
          refine sL (pc' := 30) (i := .iload_n 1) rfl rfl ?_
          refine sL (pc' := 31) (i := .iload_n 2) rfl rfl ?_
          refine sKi (p := 32) rfl rfl ?_
          refine sAd (p := 33) rfl rfl ?_
          refine sCvQ (p := 36) (as := [_, _]) rfl rfl rfl rfl (by decide) (Nat.le_of_ble_eq_true rfl) rfl (Nat.le_of_ble_eq_true rfl) (sk_69 _) rfl (by omega) (hs.1 Sb ((lit (pr sz n) 0 f i t).2.1 + 1) (a + 1) hEb hAb hlt (by omega)) ?_
          rintro _ Sc ⟨rfl, hfc, hrc, hvc⟩
          have hEc := rdE_fr hEb hfc
          have hva2 : rowS Sc (71 + a) 0 (lit (pr sz n) 0 f i t).2.2 := rowS_fr hfc (by omega) (rowS_fr (a := 106) hfb (by omega) hva1)
          obtain ⟨g, hg, hgv⟩ : ∃ g, rowS Sc (71 + (a + 1)) 0 g ∧ ((f ((lit (pr sz n) 0 f i t).2.1 + 1)).1 = 0 → g = (f ((lit (pr sz n) 0 f i t).2.1 + 1)).2.2) := by
            by_cases q0 : (f ((lit (pr sz n) 0 f i t).2.1 + 1)).1 = 0
            · exact ⟨_, hvc q0, fun _ => rfl⟩
            · obtain ⟨g, hg⟩ := rowS_ex Sc (71 + (a + 1))
              exact ⟨g, hg, fun z => absurd z q0⟩
          refine sL (pc' := 37) (i := .aload_n 0) rfl rfl ?_
          refine sGc (p := 40) rfl rfl (sk_69 _) rfl rfl rfl ?_
          refine sL (pc' := 41) (i := .aload_n 0) rfl rfl ?_
          refine sL (pc' := 42) (i := .iload_n 2) rfl rfl ?_
          refine sCv (p := 45) (as := [_]) rfl rfl rfl rfl (by decide) (Nat.le_of_ble_eq_true rfl) rfl (Nat.le_of_ble_eq_true rfl) (sk_69 _) rfl (by omega) (c_slot (a := a) (by omega)) ?_
          refine sKi (p := 46) rfl rfl ?_
          refine sL (pc' := 47) (i := .aload_n 0) rfl rfl ?_
          refine sL (pc' := 48) (i := .iload_n 2) rfl rfl ?_
          refine sCv (p := 51) (as := [_]) rfl rfl rfl rfl (by decide) (Nat.le_of_ble_eq_true rfl) rfl (Nat.le_of_ble_eq_true rfl) (sk_69 _) rfl (by omega) (c_slot (a := a) (by omega)) ?_
          refine sL (pc' := 52) (i := .aload_n 0) rfl rfl ?_
          refine sL (pc' := 53) (i := .iload_n 2) rfl rfl ?_
          refine sKi (p := 54) rfl rfl ?_
          refine sAd (p := 55) rfl rfl ?_
          refine sCv (p := 58) (as := [_]) rfl rfl rfl rfl (by decide) (Nat.le_of_ble_eq_true rfl) rfl (Nat.le_of_ble_eq_true rfl) (sk_69 _) rfl (by omega) (c_slot (a := a + 1) (by omega)) ?_
          refine sCv (p := 61) (as := [_, _, _, _]) rfl rfl rfl rfl (by decide) (Nat.le_of_ble_eq_true rfl) rfl (Nat.le_of_ble_eq_true rfl) (sk_7 _) rfl (by omega) (c_combine (T := pr sz n) (op := 0) (sk_slots _ (by omega)) (sk_slots _ (by omega)) (sk_slots _ (by omega)) hva2 hg hEc.2.2.2.2.1 (by omega) (by decide)) ?_
          refine sInX (z := ((t : Nat) : Int)) (ls' := [some (.ref 69), some (.int (iI ((d : Nat) : Int))), some (.int (iI ((a : Nat) : Int))), some (.int (iI (((t : Nat) : Int) + 1)))]) (p := 64) rfl rfl (Nat.le_of_ble_eq_true rfl) rfl rfl ?_
          refine sL (i := .goto (-56)) rfl rfl ?_
          refine sFg (ls := [some (.ref 69), some (.int (iI ((d : Nat) : Int))), some (.int (iI ((a : Nat) : Int))), some (.int (iI ((t + 1 : Nat) : Int)))]) (xx_ll_le (And.intro rfl (And.intro rfl (And.intro rfl (And.intro rfl (True.intro)))))) (ih8 _ ?_)
          exact ⟨frR_trans hfa (frR_trans (frR_le hfb (by omega)) (frR_trans (frR_le hfc (by omega)) (frR_row (Nat.le_refl _) (by omega)))), hrc, fun z => by rw [hgv z]; exact rowS_wRw _ _ _ _⟩
    · have hJ8 := hJ8
      obtain ⟨hfa, hra, hva⟩ := hJ8
      obtain ⟨tkv, htk⟩ : ∃ tkv, SI Saf 69 5 = tkv := ⟨_, rfl⟩
      have htv := rS_tok hra
      rw [htk] at htv
      have hKf := hK (lit (pr sz n) 0 f i (lnN K (pr sz n) 38 0 f i)).2.1
      have hrt : (0 ≤ tkv ∧ tkv ≤ 266) ∧ (lnN K (pr sz n) 38 0 f i < 400 → tkv ≠ 38) := by
        have hN3 := hN.2.2
        by_cases q0 : (lit (pr sz n) 0 f i (lnN K (pr sz n) 38 0 f i)).1 = 0
        · rw [if_pos q0] at htv
          omega
        · rw [if_neg q0] at htv
          omega
      refine sL (pc' := 9) (i := .iload_n 3) rfl rfl ?_
      refine sKs (p := 12) rfl rfl ?_
      refine sIc_ge (p := 15) rfl rfl ⟨by omega, by omega⟩ ⟨by omega, by omega⟩ (fun c3 => ?_) (fun c3 => ?_)
      · have c3 := c3
        refine sEn (i := .return_) rfl (rfl) ?_
        rw [hS0] at hfa
        exact ⟨rfl, hfa, hra, hva⟩
      · have c3 := c3
        refine sL (pc' := 16) (i := .aload_n 0) rfl rfl ?_
        refine sGi (p := 19) rfl rfl (sk_69 _) rfl rfl rfl htk ?_
        refine sKb (p := 21) rfl rfl ?_
        refine sIc_ne (p := 24) rfl rfl ⟨by omega, by omega⟩ ⟨by omega, by omega⟩ (fun c4 => ?_) (fun c4 => ?_)
        · have c4 := c4
          refine sEn (i := .return_) rfl (rfl) ?_
          rw [hS0] at hfa
          exact ⟨rfl, hfa, hra, hva⟩
        · exfalso; omega
  · have hX0 := hX
    obtain ⟨⟨j9, hjm, hj9⟩, _⟩ := hX0
    refine sIni (ls := [some (.ref 69), some (.int (iI ((d : Nat) : Int))), some (.int (iI ((a : Nat) : Int))), none]) rfl ?_
    refine sL (pc' := 1) (i := .aload_n 0) rfl rfl ?_
    refine sL (pc' := 2) (i := .iload_n 1) rfl rfl ?_
    refine sL (pc' := 3) (i := .iload_n 2) rfl rfl ?_
    refine sCvQ (p := 6) (as := [_, _]) rfl rfl rfl rfl (by decide) (Nat.le_of_ble_eq_true rfl) rfl (Nat.le_of_ble_eq_true rfl) (sk_69 _) rfl (by omega) (hs.2 S k p a hE hX (by omega)) ?_
    rintro _ S1 ⟨rfl, hf1, hX1⟩
    refine sKi (p := 7) rfl rfl ?_
    refine sL (pc' := 8) (i := .istore_n 3) (ls' := [some (.ref 69), some (.int (iI ((d : Nat) : Int))), some (.int (iI ((a : Nat) : Int))), some (.int (iI 0))]) rfl rfl ?_
    refine sL (pc' := 9) (i := .iload_n 3) rfl rfl ?_
    refine sKs (p := 12) rfl rfl ?_
    refine sIc_ge (p := 15) rfl rfl ⟨by omega, by omega⟩ ⟨by omega, by omega⟩ (fun c1 => ?_) (fun c1 => ?_)
    · exact absurd c1 (by decide)
    · have c1 := c1
      refine sL (pc' := 16) (i := .aload_n 0) rfl rfl ?_
      refine sGi (p := 19) rfl rfl (sk_69 _) rfl rfl rfl hX1.2.1 ?_
      refine sKb (p := 21) rfl rfl ?_
      refine sIc_ne (p := 24) rfl rfl ⟨by omega, by omega⟩ ⟨by omega, by omega⟩ (fun c2 => ?_) (fun c2 => ?_)
      · have c2 := c2
        refine sEn (i := .return_) rfl (rfl) ?_
        exact ⟨rfl, hf1, hX1⟩
      · exact absurd c2 (by decide)
theorem l_Odd {ds d B : Nat} {f : Nat → Nat × Nat × (Nat → Bool)} (hds : 3 ≤ ds) (hd : d ≤ 20) (hB : B + 1 ≤ 105) (hs : subC X K A C m n sz fn dr Fn nm ds 93 d (B + 1) f) : subC X K A C m n sz fn dr Fn nm (ds + 1) 92 d B (lev K (pr sz n) 94 2 f) := by
  refine ⟨fun S i a hE hA hi ha => ?_, fun S k p a hE hX ha => ?_⟩
  · have hm := hE.1.1
    have hK := hE.1.2.1
    obtain ⟨S0, hS0⟩ : ∃ S0, S0 = S := ⟨_, rfl⟩
    have hE0 : rdE S0 K A C m n sz fn dr Fn nm := by rw [hS0]; exact hE
    have hN := lnN_ok K (pr sz n) 94 2 f i
    show sM X (ds + 1) 92 _ S (oQ K A m a (lit (pr sz n) 2 f i (lnN K (pr sz n) 94 2 f i)) S)
    refine sIni (ls := [some (.ref 69), some (.int (iI ((d : Nat) : Int))), some (.int (iI ((a : Nat) : Int))), none]) rfl ?_
    refine sL (pc' := 1) (i := .aload_n 0) rfl rfl ?_
    refine sL (pc' := 2) (i := .iload_n 1) rfl rfl ?_
    refine sL (pc' := 3) (i := .iload_n 2) rfl rfl ?_
    refine sCvQ (p := 6) (as := [_, _]) rfl rfl rfl rfl (by decide) (Nat.le_of_ble_eq_true rfl) rfl (Nat.le_of_ble_eq_true rfl) (sk_69 _) rfl (by omega) (hs.1 S i a hE hA hi (by omega)) ?_
    rintro _ S1 ⟨rfl, hf1, hr1, hv1⟩
    rw [← hS0] at hf1
    refine sKi (p := 7) rfl rfl ?_
    refine sL (pc' := 8) (i := .istore_n 3) (ls' := [some (.ref 69), some (.int (iI ((d : Nat) : Int))), some (.int (iI ((a : Nat) : Int))), some (.int (iI 0))]) rfl rfl ?_
    refine sItR (A := fun t => [some (.ref 69), some (.int (iI ((d : Nat) : Int))), some (.int (iI ((a : Nat) : Int))), some (.int (iI ((t : Nat) : Int)))]) (fun t S => frR a S0 S ∧ rS S K A m (lit (pr sz n) 2 f i t).1 (lit (pr sz n) 2 f i t).2.1 ∧ ((lit (pr sz n) 2 f i t).1 = 0 → rowS S (71 + a) 0 (lit (pr sz n) 2 f i t).2.2)) (lnN K (pr sz n) 94 2 f i) (⟨hf1, hr1, hv1⟩) (fun t hi8 Sa hJ8 ih8 => ?_) (fun Saf hJ8 => ?_)
    · have hi8 := hi8
      obtain ⟨hfa, hra, hva⟩ := hJ8
      have hgo := hN.2.1 t hi8
      have hEa := rdE_fr hE0 hfa
      have hva1 := hva hgo.1
      obtain ⟨hia, hAa⟩ : (lit (pr sz n) 2 f i t).2.1 ≤ m ∧ rA Sa K (lit (pr sz n) 2 f i t).2.1 := by
        rcases hra with ⟨_, h1, h2⟩ | ⟨h1, _⟩
        · exact ⟨h1, h2⟩
        · exact absurd hgo.1 h1
      have hlt := rdE_i hEa hia (by omega) (by omega)
      refine sL (pc' := 9) (i := .iload_n 3) rfl rfl ?_
      refine sKs (p := 12) rfl rfl ?_
      refine sIc_ge (p := 15) rfl rfl ⟨by omega, by omega⟩ ⟨by omega, by omega⟩ (fun c1 => ?_) (fun c1 => ?_)
      · exfalso; omega
      · have c1 := c1
        refine sL (pc' := 16) (i := .aload_n 0) rfl rfl ?_
        refine sGi (p := 19) rfl rfl (sk_69 _) rfl rfl rfl hAa.2.1 ?_
        refine sKb (p := 21) rfl rfl ?_
        refine sIc_ne (p := 24) rfl rfl ⟨by omega, by omega⟩ ⟨by omega, by omega⟩ (fun c2 => ?_) (fun c2 => ?_)
        · exfalso; omega
        · have c2 := c2
          refine sL (pc' := 25) (i := .aload_n 0) rfl rfl ?_
          refine sCvQ (p := 28) (as := []) rfl rfl rfl rfl (by decide) (Nat.le_of_ble_eq_true rfl) rfl (Nat.le_of_ble_eq_true rfl) (sk_69 _) rfl (by omega) (c_advance hEa hAa hlt) ?_
          rintro _ Sb ⟨rfl, hAb, hfb⟩
          have hEb := rdE_fr hEa hfb
          refine sL (pc' := 29) (i := .aload_n 0) rfl rfl ?_
          refine sL (pc' := 30) (i := .iload_n 1) rfl rfl ?_
          refine sL (pc' := 31) (i := .iload_n 2) rfl rfl ?_
          refine sKi (p := 32) rfl rfl ?_
          refine sAd (p := 33) rfl rfl ?_
          refine sCvQ (p := 36) (as := [_, _]) rfl rfl rfl rfl (by decide) (Nat.le_of_ble_eq_true rfl) rfl (Nat.le_of_ble_eq_true rfl) (sk_69 _) rfl (by omega) (hs.1 Sb ((lit (pr sz n) 2 f i t).2.1 + 1) (a + 1) hEb hAb hlt (by omega)) ?_
          rintro _ Sc ⟨rfl, hfc, hrc, hvc⟩
          have hEc := rdE_fr hEb hfc
          have hva2 : rowS Sc (71 + a) 0 (lit (pr sz n) 2 f i t).2.2 := rowS_fr hfc (by omega) (rowS_fr (a := 106) hfb (by omega) hva1)
          obtain ⟨g, hg, hgv⟩ : ∃ g, rowS Sc (71 + (a + 1)) 0 g ∧ ((f ((lit (pr sz n) 2 f i t).2.1 + 1)).1 = 0 → g = (f ((lit (pr sz n) 2 f i t).2.1 + 1)).2.2) := by
            by_cases q0 : (f ((lit (pr sz n) 2 f i t).2.1 + 1)).1 = 0
            · exact ⟨_, hvc q0, fun _ => rfl⟩
            · obtain ⟨g, hg⟩ := rowS_ex Sc (71 + (a + 1))
              exact ⟨g, hg, fun z => absurd z q0⟩
          refine sL (pc' := 37) (i := .aload_n 0) rfl rfl ?_
          refine sGc (p := 40) rfl rfl (sk_69 _) rfl rfl rfl ?_
          refine sL (pc' := 41) (i := .aload_n 0) rfl rfl ?_
          refine sL (pc' := 42) (i := .iload_n 2) rfl rfl ?_
          refine sCv (p := 45) (as := [_]) rfl rfl rfl rfl (by decide) (Nat.le_of_ble_eq_true rfl) rfl (Nat.le_of_ble_eq_true rfl) (sk_69 _) rfl (by omega) (c_slot (a := a) (by omega)) ?_
          refine sKi (p := 46) rfl rfl ?_
          refine sL (pc' := 47) (i := .aload_n 0) rfl rfl ?_
          refine sL (pc' := 48) (i := .iload_n 2) rfl rfl ?_
          refine sCv (p := 51) (as := [_]) rfl rfl rfl rfl (by decide) (Nat.le_of_ble_eq_true rfl) rfl (Nat.le_of_ble_eq_true rfl) (sk_69 _) rfl (by omega) (c_slot (a := a) (by omega)) ?_
          refine sL (pc' := 52) (i := .aload_n 0) rfl rfl ?_
          refine sL (pc' := 53) (i := .iload_n 2) rfl rfl ?_
          refine sKi (p := 54) rfl rfl ?_
          refine sAd (p := 55) rfl rfl ?_
          refine sCv (p := 58) (as := [_]) rfl rfl rfl rfl (by decide) (Nat.le_of_ble_eq_true rfl) rfl (Nat.le_of_ble_eq_true rfl) (sk_69 _) rfl (by omega) (c_slot (a := a + 1) (by omega)) ?_
          refine sCv (p := 61) (as := [_, _, _, _]) rfl rfl rfl rfl (by decide) (Nat.le_of_ble_eq_true rfl) rfl (Nat.le_of_ble_eq_true rfl) (sk_7 _) rfl (by omega) (c_combine (T := pr sz n) (op := 2) (sk_slots _ (by omega)) (sk_slots _ (by omega)) (sk_slots _ (by omega)) hva2 hg hEc.2.2.2.2.1 (by omega) (by decide)) ?_
          refine sInX (z := ((t : Nat) : Int)) (ls' := [some (.ref 69), some (.int (iI ((d : Nat) : Int))), some (.int (iI ((a : Nat) : Int))), some (.int (iI (((t : Nat) : Int) + 1)))]) (p := 64) rfl rfl (Nat.le_of_ble_eq_true rfl) rfl rfl ?_
          refine sL (i := .goto (-56)) rfl rfl ?_
          refine sFg (ls := [some (.ref 69), some (.int (iI ((d : Nat) : Int))), some (.int (iI ((a : Nat) : Int))), some (.int (iI ((t + 1 : Nat) : Int)))]) (xx_ll_le (And.intro rfl (And.intro rfl (And.intro rfl (And.intro rfl (True.intro)))))) (ih8 _ ?_)
          exact ⟨frR_trans hfa (frR_trans (frR_le hfb (by omega)) (frR_trans (frR_le hfc (by omega)) (frR_row (Nat.le_refl _) (by omega)))), hrc, fun z => by rw [hgv z]; exact rowS_wRw _ _ _ _⟩
    · have hJ8 := hJ8
      obtain ⟨hfa, hra, hva⟩ := hJ8
      obtain ⟨tkv, htk⟩ : ∃ tkv, SI Saf 69 5 = tkv := ⟨_, rfl⟩
      have htv := rS_tok hra
      rw [htk] at htv
      have hKf := hK (lit (pr sz n) 2 f i (lnN K (pr sz n) 94 2 f i)).2.1
      have hrt : (0 ≤ tkv ∧ tkv ≤ 266) ∧ (lnN K (pr sz n) 94 2 f i < 400 → tkv ≠ 94) := by
        have hN3 := hN.2.2
        by_cases q0 : (lit (pr sz n) 2 f i (lnN K (pr sz n) 94 2 f i)).1 = 0
        · rw [if_pos q0] at htv
          omega
        · rw [if_neg q0] at htv
          omega
      refine sL (pc' := 9) (i := .iload_n 3) rfl rfl ?_
      refine sKs (p := 12) rfl rfl ?_
      refine sIc_ge (p := 15) rfl rfl ⟨by omega, by omega⟩ ⟨by omega, by omega⟩ (fun c3 => ?_) (fun c3 => ?_)
      · have c3 := c3
        refine sEn (i := .return_) rfl (rfl) ?_
        rw [hS0] at hfa
        exact ⟨rfl, hfa, hra, hva⟩
      · have c3 := c3
        refine sL (pc' := 16) (i := .aload_n 0) rfl rfl ?_
        refine sGi (p := 19) rfl rfl (sk_69 _) rfl rfl rfl htk ?_
        refine sKb (p := 21) rfl rfl ?_
        refine sIc_ne (p := 24) rfl rfl ⟨by omega, by omega⟩ ⟨by omega, by omega⟩ (fun c4 => ?_) (fun c4 => ?_)
        · have c4 := c4
          refine sEn (i := .return_) rfl (rfl) ?_
          rw [hS0] at hfa
          exact ⟨rfl, hfa, hra, hva⟩
        · exfalso; omega
  · have hX0 := hX
    obtain ⟨⟨j9, hjm, hj9⟩, _⟩ := hX0
    refine sIni (ls := [some (.ref 69), some (.int (iI ((d : Nat) : Int))), some (.int (iI ((a : Nat) : Int))), none]) rfl ?_
    refine sL (pc' := 1) (i := .aload_n 0) rfl rfl ?_
    refine sL (pc' := 2) (i := .iload_n 1) rfl rfl ?_
    refine sL (pc' := 3) (i := .iload_n 2) rfl rfl ?_
    refine sCvQ (p := 6) (as := [_, _]) rfl rfl rfl rfl (by decide) (Nat.le_of_ble_eq_true rfl) rfl (Nat.le_of_ble_eq_true rfl) (sk_69 _) rfl (by omega) (hs.2 S k p a hE hX (by omega)) ?_
    rintro _ S1 ⟨rfl, hf1, hX1⟩
    refine sKi (p := 7) rfl rfl ?_
    refine sL (pc' := 8) (i := .istore_n 3) (ls' := [some (.ref 69), some (.int (iI ((d : Nat) : Int))), some (.int (iI ((a : Nat) : Int))), some (.int (iI 0))]) rfl rfl ?_
    refine sL (pc' := 9) (i := .iload_n 3) rfl rfl ?_
    refine sKs (p := 12) rfl rfl ?_
    refine sIc_ge (p := 15) rfl rfl ⟨by omega, by omega⟩ ⟨by omega, by omega⟩ (fun c1 => ?_) (fun c1 => ?_)
    · exact absurd c1 (by decide)
    · have c1 := c1
      refine sL (pc' := 16) (i := .aload_n 0) rfl rfl ?_
      refine sGi (p := 19) rfl rfl (sk_69 _) rfl rfl rfl hX1.2.1 ?_
      refine sKb (p := 21) rfl rfl ?_
      refine sIc_ne (p := 24) rfl rfl ⟨by omega, by omega⟩ ⟨by omega, by omega⟩ (fun c2 => ?_) (fun c2 => ?_)
      · have c2 := c2
        refine sEn (i := .return_) rfl (rfl) ?_
        exact ⟨rfl, hf1, hX1⟩
      · exact absurd c2 (by decide)
theorem l_Either {ds d B : Nat} {f : Nat → Nat × Nat × (Nat → Bool)} (hds : 3 ≤ ds) (hd : d ≤ 20) (hB : B + 1 ≤ 105) (hs : subC X K A C m n sz fn dr Fn nm ds 92 d (B + 1) f) : subC X K A C m n sz fn dr Fn nm (ds + 1) 91 d B (lev K (pr sz n) 124 1 f) := by
  refine ⟨fun S i a hE hA hi ha => ?_, fun S k p a hE hX ha => ?_⟩
  · have hm := hE.1.1
    have hK := hE.1.2.1
    obtain ⟨S0, hS0⟩ : ∃ S0, S0 = S := ⟨_, rfl⟩
    have hE0 : rdE S0 K A C m n sz fn dr Fn nm := by rw [hS0]; exact hE
    have hN := lnN_ok K (pr sz n) 124 1 f i
    show sM X (ds + 1) 91 _ S (oQ K A m a (lit (pr sz n) 1 f i (lnN K (pr sz n) 124 1 f i)) S)
    refine sIni (ls := [some (.ref 69), some (.int (iI ((d : Nat) : Int))), some (.int (iI ((a : Nat) : Int))), none]) rfl ?_
    refine sL (pc' := 1) (i := .aload_n 0) rfl rfl ?_
    refine sL (pc' := 2) (i := .iload_n 1) rfl rfl ?_
    refine sL (pc' := 3) (i := .iload_n 2) rfl rfl ?_
    refine sCvQ (p := 6) (as := [_, _]) rfl rfl rfl rfl (by decide) (Nat.le_of_ble_eq_true rfl) rfl (Nat.le_of_ble_eq_true rfl) (sk_69 _) rfl (by omega) (hs.1 S i a hE hA hi (by omega)) ?_
    rintro _ S1 ⟨rfl, hf1, hr1, hv1⟩
    rw [← hS0] at hf1
    refine sKi (p := 7) rfl rfl ?_
    refine sL (pc' := 8) (i := .istore_n 3) (ls' := [some (.ref 69), some (.int (iI ((d : Nat) : Int))), some (.int (iI ((a : Nat) : Int))), some (.int (iI 0))]) rfl rfl ?_
    refine sItR (A := fun t => [some (.ref 69), some (.int (iI ((d : Nat) : Int))), some (.int (iI ((a : Nat) : Int))), some (.int (iI ((t : Nat) : Int)))]) (fun t S => frR a S0 S ∧ rS S K A m (lit (pr sz n) 1 f i t).1 (lit (pr sz n) 1 f i t).2.1 ∧ ((lit (pr sz n) 1 f i t).1 = 0 → rowS S (71 + a) 0 (lit (pr sz n) 1 f i t).2.2)) (lnN K (pr sz n) 124 1 f i) (⟨hf1, hr1, hv1⟩) (fun t hi8 Sa hJ8 ih8 => ?_) (fun Saf hJ8 => ?_)
    · have hi8 := hi8
      obtain ⟨hfa, hra, hva⟩ := hJ8
      have hgo := hN.2.1 t hi8
      have hEa := rdE_fr hE0 hfa
      have hva1 := hva hgo.1
      obtain ⟨hia, hAa⟩ : (lit (pr sz n) 1 f i t).2.1 ≤ m ∧ rA Sa K (lit (pr sz n) 1 f i t).2.1 := by
        rcases hra with ⟨_, h1, h2⟩ | ⟨h1, _⟩
        · exact ⟨h1, h2⟩
        · exact absurd hgo.1 h1
      have hlt := rdE_i hEa hia (by omega) (by omega)
      refine sL (pc' := 9) (i := .iload_n 3) rfl rfl ?_
      refine sKs (p := 12) rfl rfl ?_
      refine sIc_ge (p := 15) rfl rfl ⟨by omega, by omega⟩ ⟨by omega, by omega⟩ (fun c1 => ?_) (fun c1 => ?_)
      · exfalso; omega
      · have c1 := c1
        refine sL (pc' := 16) (i := .aload_n 0) rfl rfl ?_
        refine sGi (p := 19) rfl rfl (sk_69 _) rfl rfl rfl hAa.2.1 ?_
        refine sKb (p := 21) rfl rfl ?_
        refine sIc_ne (p := 24) rfl rfl ⟨by omega, by omega⟩ ⟨by omega, by omega⟩ (fun c2 => ?_) (fun c2 => ?_)
        · exfalso; omega
        · have c2 := c2
          refine sL (pc' := 25) (i := .aload_n 0) rfl rfl ?_
          refine sCvQ (p := 28) (as := []) rfl rfl rfl rfl (by decide) (Nat.le_of_ble_eq_true rfl) rfl (Nat.le_of_ble_eq_true rfl) (sk_69 _) rfl (by omega) (c_advance hEa hAa hlt) ?_
          rintro _ Sb ⟨rfl, hAb, hfb⟩
          have hEb := rdE_fr hEa hfb
          refine sL (pc' := 29) (i := .aload_n 0) rfl rfl ?_
          refine sL (pc' := 30) (i := .iload_n 1) rfl rfl ?_
          refine sL (pc' := 31) (i := .iload_n 2) rfl rfl ?_
          refine sKi (p := 32) rfl rfl ?_
          refine sAd (p := 33) rfl rfl ?_
          refine sCvQ (p := 36) (as := [_, _]) rfl rfl rfl rfl (by decide) (Nat.le_of_ble_eq_true rfl) rfl (Nat.le_of_ble_eq_true rfl) (sk_69 _) rfl (by omega) (hs.1 Sb ((lit (pr sz n) 1 f i t).2.1 + 1) (a + 1) hEb hAb hlt (by omega)) ?_
          rintro _ Sc ⟨rfl, hfc, hrc, hvc⟩
          have hEc := rdE_fr hEb hfc
          have hva2 : rowS Sc (71 + a) 0 (lit (pr sz n) 1 f i t).2.2 := rowS_fr hfc (by omega) (rowS_fr (a := 106) hfb (by omega) hva1)
          obtain ⟨g, hg, hgv⟩ : ∃ g, rowS Sc (71 + (a + 1)) 0 g ∧ ((f ((lit (pr sz n) 1 f i t).2.1 + 1)).1 = 0 → g = (f ((lit (pr sz n) 1 f i t).2.1 + 1)).2.2) := by
            by_cases q0 : (f ((lit (pr sz n) 1 f i t).2.1 + 1)).1 = 0
            · exact ⟨_, hvc q0, fun _ => rfl⟩
            · obtain ⟨g, hg⟩ := rowS_ex Sc (71 + (a + 1))
              exact ⟨g, hg, fun z => absurd z q0⟩
          refine sL (pc' := 37) (i := .aload_n 0) rfl rfl ?_
          refine sGc (p := 40) rfl rfl (sk_69 _) rfl rfl rfl ?_
          refine sL (pc' := 41) (i := .aload_n 0) rfl rfl ?_
          refine sL (pc' := 42) (i := .iload_n 2) rfl rfl ?_
          refine sCv (p := 45) (as := [_]) rfl rfl rfl rfl (by decide) (Nat.le_of_ble_eq_true rfl) rfl (Nat.le_of_ble_eq_true rfl) (sk_69 _) rfl (by omega) (c_slot (a := a) (by omega)) ?_
          refine sKi (p := 46) rfl rfl ?_
          refine sL (pc' := 47) (i := .aload_n 0) rfl rfl ?_
          refine sL (pc' := 48) (i := .iload_n 2) rfl rfl ?_
          refine sCv (p := 51) (as := [_]) rfl rfl rfl rfl (by decide) (Nat.le_of_ble_eq_true rfl) rfl (Nat.le_of_ble_eq_true rfl) (sk_69 _) rfl (by omega) (c_slot (a := a) (by omega)) ?_
          refine sL (pc' := 52) (i := .aload_n 0) rfl rfl ?_
          refine sL (pc' := 53) (i := .iload_n 2) rfl rfl ?_
          refine sKi (p := 54) rfl rfl ?_
          refine sAd (p := 55) rfl rfl ?_
          refine sCv (p := 58) (as := [_]) rfl rfl rfl rfl (by decide) (Nat.le_of_ble_eq_true rfl) rfl (Nat.le_of_ble_eq_true rfl) (sk_69 _) rfl (by omega) (c_slot (a := a + 1) (by omega)) ?_
          refine sCv (p := 61) (as := [_, _, _, _]) rfl rfl rfl rfl (by decide) (Nat.le_of_ble_eq_true rfl) rfl (Nat.le_of_ble_eq_true rfl) (sk_7 _) rfl (by omega) (c_combine (T := pr sz n) (op := 1) (sk_slots _ (by omega)) (sk_slots _ (by omega)) (sk_slots _ (by omega)) hva2 hg hEc.2.2.2.2.1 (by omega) (by decide)) ?_
          refine sInX (z := ((t : Nat) : Int)) (ls' := [some (.ref 69), some (.int (iI ((d : Nat) : Int))), some (.int (iI ((a : Nat) : Int))), some (.int (iI (((t : Nat) : Int) + 1)))]) (p := 64) rfl rfl (Nat.le_of_ble_eq_true rfl) rfl rfl ?_
          refine sL (i := .goto (-56)) rfl rfl ?_
          refine sFg (ls := [some (.ref 69), some (.int (iI ((d : Nat) : Int))), some (.int (iI ((a : Nat) : Int))), some (.int (iI ((t + 1 : Nat) : Int)))]) (xx_ll_le (And.intro rfl (And.intro rfl (And.intro rfl (And.intro rfl (True.intro)))))) (ih8 _ ?_)
          exact ⟨frR_trans hfa (frR_trans (frR_le hfb (by omega)) (frR_trans (frR_le hfc (by omega)) (frR_row (Nat.le_refl _) (by omega)))), hrc, fun z => by rw [hgv z]; exact rowS_wRw _ _ _ _⟩
    · have hJ8 := hJ8
      obtain ⟨hfa, hra, hva⟩ := hJ8
      obtain ⟨tkv, htk⟩ : ∃ tkv, SI Saf 69 5 = tkv := ⟨_, rfl⟩
      have htv := rS_tok hra
      rw [htk] at htv
      have hKf := hK (lit (pr sz n) 1 f i (lnN K (pr sz n) 124 1 f i)).2.1
      have hrt : (0 ≤ tkv ∧ tkv ≤ 266) ∧ (lnN K (pr sz n) 124 1 f i < 400 → tkv ≠ 124) := by
        have hN3 := hN.2.2
        by_cases q0 : (lit (pr sz n) 1 f i (lnN K (pr sz n) 124 1 f i)).1 = 0
        · rw [if_pos q0] at htv
          omega
        · rw [if_neg q0] at htv
          omega
      refine sL (pc' := 9) (i := .iload_n 3) rfl rfl ?_
      refine sKs (p := 12) rfl rfl ?_
      refine sIc_ge (p := 15) rfl rfl ⟨by omega, by omega⟩ ⟨by omega, by omega⟩ (fun c3 => ?_) (fun c3 => ?_)
      · have c3 := c3
        refine sEn (i := .return_) rfl (rfl) ?_
        rw [hS0] at hfa
        exact ⟨rfl, hfa, hra, hva⟩
      · have c3 := c3
        refine sL (pc' := 16) (i := .aload_n 0) rfl rfl ?_
        refine sGi (p := 19) rfl rfl (sk_69 _) rfl rfl rfl htk ?_
        refine sKb (p := 21) rfl rfl ?_
        refine sIc_ne (p := 24) rfl rfl ⟨by omega, by omega⟩ ⟨by omega, by omega⟩ (fun c4 => ?_) (fun c4 => ?_)
        · have c4 := c4
          refine sEn (i := .return_) rfl (rfl) ?_
          rw [hS0] at hfa
          exact ⟨rfl, hfa, hra, hva⟩
        · exfalso; omega
  · have hX0 := hX
    obtain ⟨⟨j9, hjm, hj9⟩, _⟩ := hX0
    refine sIni (ls := [some (.ref 69), some (.int (iI ((d : Nat) : Int))), some (.int (iI ((a : Nat) : Int))), none]) rfl ?_
    refine sL (pc' := 1) (i := .aload_n 0) rfl rfl ?_
    refine sL (pc' := 2) (i := .iload_n 1) rfl rfl ?_
    refine sL (pc' := 3) (i := .iload_n 2) rfl rfl ?_
    refine sCvQ (p := 6) (as := [_, _]) rfl rfl rfl rfl (by decide) (Nat.le_of_ble_eq_true rfl) rfl (Nat.le_of_ble_eq_true rfl) (sk_69 _) rfl (by omega) (hs.2 S k p a hE hX (by omega)) ?_
    rintro _ S1 ⟨rfl, hf1, hX1⟩
    refine sKi (p := 7) rfl rfl ?_
    refine sL (pc' := 8) (i := .istore_n 3) (ls' := [some (.ref 69), some (.int (iI ((d : Nat) : Int))), some (.int (iI ((a : Nat) : Int))), some (.int (iI 0))]) rfl rfl ?_
    refine sL (pc' := 9) (i := .iload_n 3) rfl rfl ?_
    refine sKs (p := 12) rfl rfl ?_
    refine sIc_ge (p := 15) rfl rfl ⟨by omega, by omega⟩ ⟨by omega, by omega⟩ (fun c1 => ?_) (fun c1 => ?_)
    · exact absurd c1 (by decide)
    · have c1 := c1
      refine sL (pc' := 16) (i := .aload_n 0) rfl rfl ?_
      refine sGi (p := 19) rfl rfl (sk_69 _) rfl rfl rfl hX1.2.1 ?_
      refine sKb (p := 21) rfl rfl ?_
      refine sIc_ne (p := 24) rfl rfl ⟨by omega, by omega⟩ ⟨by omega, by omega⟩ (fun c2 => ?_) (fun c2 => ?_)
      · have c2 := c2
        refine sEn (i := .return_) rfl (rfl) ?_
        exact ⟨rfl, hf1, hX1⟩
      · exact absurd c2 (by decide)
theorem l_Formula {ds d B : Nat} {f : Nat → Nat × Nat × (Nat → Bool)} (hds : 3 ≤ ds) (hd : d ≤ 20) (hB : B + 1 ≤ 105) (hs : subC X K A C m n sz fn dr Fn nm ds 90 d (B + 1) f) : subC X K A C m n sz fn dr Fn nm (ds + 1) 89 d B (lev K (pr sz n) 257 4 f) := by
  refine ⟨fun S i a hE hA hi ha => ?_, fun S k p a hE hX ha => ?_⟩
  · have hm := hE.1.1
    have hK := hE.1.2.1
    obtain ⟨S0, hS0⟩ : ∃ S0, S0 = S := ⟨_, rfl⟩
    have hE0 : rdE S0 K A C m n sz fn dr Fn nm := by rw [hS0]; exact hE
    have hN := lnN_ok K (pr sz n) 257 4 f i
    show sM X (ds + 1) 89 _ S (oQ K A m a (lit (pr sz n) 4 f i (lnN K (pr sz n) 257 4 f i)) S)
    refine sIni (ls := [some (.ref 69), some (.int (iI ((d : Nat) : Int))), some (.int (iI ((a : Nat) : Int))), none]) rfl ?_
    refine sL (pc' := 1) (i := .aload_n 0) rfl rfl ?_
    refine sL (pc' := 2) (i := .iload_n 1) rfl rfl ?_
    refine sL (pc' := 3) (i := .iload_n 2) rfl rfl ?_
    refine sCvQ (p := 6) (as := [_, _]) rfl rfl rfl rfl (by decide) (Nat.le_of_ble_eq_true rfl) rfl (Nat.le_of_ble_eq_true rfl) (sk_69 _) rfl (by omega) (hs.1 S i a hE hA hi (by omega)) ?_
    rintro _ S1 ⟨rfl, hf1, hr1, hv1⟩
    rw [← hS0] at hf1
    refine sKi (p := 7) rfl rfl ?_
    refine sL (pc' := 8) (i := .istore_n 3) (ls' := [some (.ref 69), some (.int (iI ((d : Nat) : Int))), some (.int (iI ((a : Nat) : Int))), some (.int (iI 0))]) rfl rfl ?_
    refine sItR (A := fun t => [some (.ref 69), some (.int (iI ((d : Nat) : Int))), some (.int (iI ((a : Nat) : Int))), some (.int (iI ((t : Nat) : Int)))]) (fun t S => frR a S0 S ∧ rS S K A m (lit (pr sz n) 4 f i t).1 (lit (pr sz n) 4 f i t).2.1 ∧ ((lit (pr sz n) 4 f i t).1 = 0 → rowS S (71 + a) 0 (lit (pr sz n) 4 f i t).2.2)) (lnN K (pr sz n) 257 4 f i) (⟨hf1, hr1, hv1⟩) (fun t hi8 Sa hJ8 ih8 => ?_) (fun Saf hJ8 => ?_)
    · have hi8 := hi8
      obtain ⟨hfa, hra, hva⟩ := hJ8
      have hgo := hN.2.1 t hi8
      have hEa := rdE_fr hE0 hfa
      have hva1 := hva hgo.1
      obtain ⟨hia, hAa⟩ : (lit (pr sz n) 4 f i t).2.1 ≤ m ∧ rA Sa K (lit (pr sz n) 4 f i t).2.1 := by
        rcases hra with ⟨_, h1, h2⟩ | ⟨h1, _⟩
        · exact ⟨h1, h2⟩
        · exact absurd hgo.1 h1
      have hlt := rdE_i hEa hia (by omega) (by omega)
      refine sL (pc' := 9) (i := .iload_n 3) rfl rfl ?_
      refine sKs (p := 12) rfl rfl ?_
      refine sIc_ge (p := 15) rfl rfl ⟨by omega, by omega⟩ ⟨by omega, by omega⟩ (fun c1 => ?_) (fun c1 => ?_)
      · exfalso; omega
      · have c1 := c1
        refine sL (pc' := 16) (i := .aload_n 0) rfl rfl ?_
        refine sGi (p := 19) rfl rfl (sk_69 _) rfl rfl rfl hAa.2.1 ?_
        refine sKs (p := 22) rfl rfl ?_
        refine sIc_ne (p := 25) rfl rfl ⟨by omega, by omega⟩ ⟨by omega, by omega⟩ (fun c2 => ?_) (fun c2 => ?_)
        · exfalso; omega
        · have c2 := c2
          refine sL (pc' := 26) (i := .aload_n 0) rfl rfl ?_
          refine sCvQ (p := 29) (as := []) rfl rfl rfl rfl (by decide) (Nat.le_of_ble_eq_true rfl) rfl (Nat.le_of_ble_eq_true rfl) (sk_69 _) rfl (by omega) (c_advance hEa hAa hlt) ?_
          rintro _ Sb ⟨rfl, hAb, hfb⟩
          have hEb := rdE_fr hEa hfb
          refine sL (pc' := 30) (i := .aload_n 0) rfl rfl ?_
          refine sL (pc' := 31) (i := .iload_n 1) rfl rfl ?_
          refine sL (pc' := 32) (i := .iload_n 2) rfl rfl ?_
          refine sKi (p := 33) rfl rfl ?_
          refine sAd (p := 34) rfl rfl ?_
          refine sCvQ (p := 37) (as := [_, _]) rfl rfl rfl rfl (by decide) (Nat.le_of_ble_eq_true rfl) rfl (Nat.le_of_ble_eq_true rfl) (sk_69 _) rfl (by omega) (hs.1 Sb ((lit (pr sz n) 4 f i t).2.1 + 1) (a + 1) hEb hAb hlt (by omega)) ?_
          rintro _ Sc ⟨rfl, hfc, hrc, hvc⟩
          have hEc := rdE_fr hEb hfc
          have hva2 : rowS Sc (71 + a) 0 (lit (pr sz n) 4 f i t).2.2 := rowS_fr hfc (by omega) (rowS_fr (a := 106) hfb (by omega) hva1)
          obtain ⟨g, hg, hgv⟩ : ∃ g, rowS Sc (71 + (a + 1)) 0 g ∧ ((f ((lit (pr sz n) 4 f i t).2.1 + 1)).1 = 0 → g = (f ((lit (pr sz n) 4 f i t).2.1 + 1)).2.2) := by
            by_cases q0 : (f ((lit (pr sz n) 4 f i t).2.1 + 1)).1 = 0
            · exact ⟨_, hvc q0, fun _ => rfl⟩
            · obtain ⟨g, hg⟩ := rowS_ex Sc (71 + (a + 1))
              exact ⟨g, hg, fun z => absurd z q0⟩
          refine sL (pc' := 38) (i := .aload_n 0) rfl rfl ?_
          refine sGc (p := 41) rfl rfl (sk_69 _) rfl rfl rfl ?_
          refine sL (pc' := 42) (i := .aload_n 0) rfl rfl ?_
          refine sL (pc' := 43) (i := .iload_n 2) rfl rfl ?_
          refine sCv (p := 46) (as := [_]) rfl rfl rfl rfl (by decide) (Nat.le_of_ble_eq_true rfl) rfl (Nat.le_of_ble_eq_true rfl) (sk_69 _) rfl (by omega) (c_slot (a := a) (by omega)) ?_
          refine sKi (p := 47) rfl rfl ?_
          refine sL (pc' := 48) (i := .aload_n 0) rfl rfl ?_
          refine sL (pc' := 49) (i := .iload_n 2) rfl rfl ?_
          refine sCv (p := 52) (as := [_]) rfl rfl rfl rfl (by decide) (Nat.le_of_ble_eq_true rfl) rfl (Nat.le_of_ble_eq_true rfl) (sk_69 _) rfl (by omega) (c_slot (a := a) (by omega)) ?_
          refine sL (pc' := 53) (i := .aload_n 0) rfl rfl ?_
          refine sL (pc' := 54) (i := .iload_n 2) rfl rfl ?_
          refine sKi (p := 55) rfl rfl ?_
          refine sAd (p := 56) rfl rfl ?_
          refine sCv (p := 59) (as := [_]) rfl rfl rfl rfl (by decide) (Nat.le_of_ble_eq_true rfl) rfl (Nat.le_of_ble_eq_true rfl) (sk_69 _) rfl (by omega) (c_slot (a := a + 1) (by omega)) ?_
          refine sCv (p := 62) (as := [_, _, _, _]) rfl rfl rfl rfl (by decide) (Nat.le_of_ble_eq_true rfl) rfl (Nat.le_of_ble_eq_true rfl) (sk_7 _) rfl (by omega) (c_combine (T := pr sz n) (op := 4) (sk_slots _ (by omega)) (sk_slots _ (by omega)) (sk_slots _ (by omega)) hva2 hg hEc.2.2.2.2.1 (by omega) (by decide)) ?_
          refine sInX (z := ((t : Nat) : Int)) (ls' := [some (.ref 69), some (.int (iI ((d : Nat) : Int))), some (.int (iI ((a : Nat) : Int))), some (.int (iI (((t : Nat) : Int) + 1)))]) (p := 65) rfl rfl (Nat.le_of_ble_eq_true rfl) rfl rfl ?_
          refine sL (i := .goto (-57)) rfl rfl ?_
          refine sFg (ls := [some (.ref 69), some (.int (iI ((d : Nat) : Int))), some (.int (iI ((a : Nat) : Int))), some (.int (iI ((t + 1 : Nat) : Int)))]) (xx_ll_le (And.intro rfl (And.intro rfl (And.intro rfl (And.intro rfl (True.intro)))))) (ih8 _ ?_)
          exact ⟨frR_trans hfa (frR_trans (frR_le hfb (by omega)) (frR_trans (frR_le hfc (by omega)) (frR_row (Nat.le_refl _) (by omega)))), hrc, fun z => by rw [hgv z]; exact rowS_wRw _ _ _ _⟩
    · have hJ8 := hJ8
      obtain ⟨hfa, hra, hva⟩ := hJ8
      obtain ⟨tkv, htk⟩ : ∃ tkv, SI Saf 69 5 = tkv := ⟨_, rfl⟩
      have htv := rS_tok hra
      rw [htk] at htv
      have hKf := hK (lit (pr sz n) 4 f i (lnN K (pr sz n) 257 4 f i)).2.1
      have hrt : (0 ≤ tkv ∧ tkv ≤ 266) ∧ (lnN K (pr sz n) 257 4 f i < 400 → tkv ≠ 257) := by
        have hN3 := hN.2.2
        by_cases q0 : (lit (pr sz n) 4 f i (lnN K (pr sz n) 257 4 f i)).1 = 0
        · rw [if_pos q0] at htv
          omega
        · rw [if_neg q0] at htv
          omega
      refine sL (pc' := 9) (i := .iload_n 3) rfl rfl ?_
      refine sKs (p := 12) rfl rfl ?_
      refine sIc_ge (p := 15) rfl rfl ⟨by omega, by omega⟩ ⟨by omega, by omega⟩ (fun c3 => ?_) (fun c3 => ?_)
      · have c3 := c3
        refine sEn (i := .return_) rfl (rfl) ?_
        rw [hS0] at hfa
        exact ⟨rfl, hfa, hra, hva⟩
      · have c3 := c3
        refine sL (pc' := 16) (i := .aload_n 0) rfl rfl ?_
        refine sGi (p := 19) rfl rfl (sk_69 _) rfl rfl rfl htk ?_
        refine sKs (p := 22) rfl rfl ?_
        refine sIc_ne (p := 25) rfl rfl ⟨by omega, by omega⟩ ⟨by omega, by omega⟩ (fun c4 => ?_) (fun c4 => ?_)
        · have c4 := c4
          refine sEn (i := .return_) rfl (rfl) ?_
          rw [hS0] at hfa
          exact ⟨rfl, hfa, hra, hva⟩
        · exfalso; omega
  · have hX0 := hX
    obtain ⟨⟨j9, hjm, hj9⟩, _⟩ := hX0
    refine sIni (ls := [some (.ref 69), some (.int (iI ((d : Nat) : Int))), some (.int (iI ((a : Nat) : Int))), none]) rfl ?_
    refine sL (pc' := 1) (i := .aload_n 0) rfl rfl ?_
    refine sL (pc' := 2) (i := .iload_n 1) rfl rfl ?_
    refine sL (pc' := 3) (i := .iload_n 2) rfl rfl ?_
    refine sCvQ (p := 6) (as := [_, _]) rfl rfl rfl rfl (by decide) (Nat.le_of_ble_eq_true rfl) rfl (Nat.le_of_ble_eq_true rfl) (sk_69 _) rfl (by omega) (hs.2 S k p a hE hX (by omega)) ?_
    rintro _ S1 ⟨rfl, hf1, hX1⟩
    refine sKi (p := 7) rfl rfl ?_
    refine sL (pc' := 8) (i := .istore_n 3) (ls' := [some (.ref 69), some (.int (iI ((d : Nat) : Int))), some (.int (iI ((a : Nat) : Int))), some (.int (iI 0))]) rfl rfl ?_
    refine sL (pc' := 9) (i := .iload_n 3) rfl rfl ?_
    refine sKs (p := 12) rfl rfl ?_
    refine sIc_ge (p := 15) rfl rfl ⟨by omega, by omega⟩ ⟨by omega, by omega⟩ (fun c1 => ?_) (fun c1 => ?_)
    · exact absurd c1 (by decide)
    · have c1 := c1
      refine sL (pc' := 16) (i := .aload_n 0) rfl rfl ?_
      refine sGi (p := 19) rfl rfl (sk_69 _) rfl rfl rfl hX1.2.1 ?_
      refine sKs (p := 22) rfl rfl ?_
      refine sIc_ne (p := 25) rfl rfl ⟨by omega, by omega⟩ ⟨by omega, by omega⟩ (fun c2 => ?_) (fun c2 => ?_)
      · have c2 := c2
        refine sEn (i := .return_) rfl (rfl) ?_
        exact ⟨rfl, hf1, hX1⟩
      · exact absurd c2 (by decide)
theorem l_Side {ds d B : Nat} {f : Nat → Nat × Nat × (Nat → Bool)} (hds : 3 ≤ ds) (hd : d ≤ 20) (hB : B + 1 ≤ 105) (hs : subC X K A C m n sz fn dr Fn nm ds 91 d (B + 1) f) : subC X K A C m n sz fn dr Fn nm (ds + 1) 90 d B (lev K (pr sz n) 256 1 (ivS K (pr sz n) f)) := by
  refine ⟨fun S i a hE hA hi ha => ?_, fun S k p a hE hX ha => ?_⟩
  · have hm := hE.1.1
    have hK := hE.1.2.1
    obtain ⟨S0, hS0⟩ : ∃ S0, S0 = S := ⟨_, rfl⟩
    have hE0 : rdE S0 K A C m n sz fn dr Fn nm := by rw [hS0]; exact hE
    have hN := lnN_ok K (pr sz n) 256 1 (ivS K (pr sz n) f) i
    show sM X (ds + 1) 90 _ S (oQ K A m a (lit (pr sz n) 1 (ivS K (pr sz n) f) i (lnN K (pr sz n) 256 1 (ivS K (pr sz n) f) i)) S)
    refine sIni (ls := [some (.ref 69), some (.int (iI ((d : Nat) : Int))), some (.int (iI ((a : Nat) : Int))), none]) rfl ?_
    refine sL (pc' := 1) (i := .aload_n 0) rfl rfl ?_
    refine sL (pc' := 2) (i := .iload_n 1) rfl rfl ?_
    refine sL (pc' := 3) (i := .iload_n 2) rfl rfl ?_
    refine sCvQ (p := 6) (as := [_, _]) rfl rfl rfl rfl (by decide) (Nat.le_of_ble_eq_true rfl) rfl (Nat.le_of_ble_eq_true rfl) (sk_69 _) rfl (by omega) (hs.1 S i a hE hA hi (by omega)) ?_
    rintro _ S1 ⟨rfl, hf1, hr1, hv1⟩
    rw [← hS0] at hf1
    have hE1 := rdE_fr hE0 hf1
    obtain ⟨t1, ht1⟩ : ∃ t1, SI S1 69 5 = t1 := ⟨_, rfl⟩
    have hq1 := rS_tok hr1
    rw [ht1] at hq1
    have hk1 := hK (f i).2.1
    have ht1b : 0 ≤ t1 ∧ t1 ≤ 266 := by
      by_cases q0 : (f i).1 = 0
      · rw [if_pos q0] at hq1
        omega
      · rw [if_neg q0] at hq1
        omega
    refine sL (pc' := 7) (i := .aload_n 0) rfl rfl ?_
    refine sGi (p := 10) rfl rfl (sk_69 _) rfl rfl rfl ht1 ?_
    refine sKs (p := 13) rfl rfl ?_
    refine sIc_ne (p := 16) rfl rfl ⟨by omega, by omega⟩ ⟨by omega, by omega⟩ (fun c1 => ?_) (fun c1 => ?_)
    · have c1 := c1
      have hn1 : ¬ ((f i).1 = 0 ∧ K (f i).2.1 = 256) := fun z => by
        rw [if_pos z.1] at hq1
        omega
      refine sKi (p := 22) rfl rfl ?_
      refine sL (pc' := 23) (i := .istore_n 3) (ls' := [some (.ref 69), some (.int (iI ((d : Nat) : Int))), some (.int (iI ((a : Nat) : Int))), some (.int (iI 0))]) rfl rfl ?_
      refine sItR (A := fun t => [some (.ref 69), some (.int (iI ((d : Nat) : Int))), some (.int (iI ((a : Nat) : Int))), some (.int (iI ((t : Nat) : Int)))]) (fun t S => frR a S0 S ∧ rS S K A m (lit (pr sz n) 1 (ivS K (pr sz n) f) i t).1 (lit (pr sz n) 1 (ivS K (pr sz n) f) i t).2.1 ∧ ((lit (pr sz n) 1 (ivS K (pr sz n) f) i t).1 = 0 → rowS S (71 + a) 0 (lit (pr sz n) 1 (ivS K (pr sz n) f) i t).2.2)) (lnN K (pr sz n) 256 1 (ivS K (pr sz n) f) i) (⟨hf1, by rw [show lit (pr sz n) 1 (ivS K (pr sz n) f) i 0 = f i from if_neg hn1]; exact hr1, by rw [show lit (pr sz n) 1 (ivS K (pr sz n) f) i 0 = f i from if_neg hn1]; exact hv1⟩) (fun t hi23 Sa hJ23 ih23 => ?_) (fun Saf hJ23 => ?_)
      · have hi23 := hi23
        obtain ⟨hfa, hra, hva⟩ := hJ23
        have hgo := hN.2.1 t hi23
        have hEa := rdE_fr hE0 hfa
        have hva1 := hva hgo.1
        obtain ⟨hia, hAa⟩ : (lit (pr sz n) 1 (ivS K (pr sz n) f) i t).2.1 ≤ m ∧ rA Sa K (lit (pr sz n) 1 (ivS K (pr sz n) f) i t).2.1 := by
          rcases hra with ⟨_, h1, h2⟩ | ⟨h1, _⟩
          · exact ⟨h1, h2⟩
          · exact absurd hgo.1 h1
        have hlt := rdE_i hEa hia (by omega) (by omega)
        refine sL (pc' := 24) (i := .iload_n 3) rfl rfl ?_
        refine sKs (p := 27) rfl rfl ?_
        refine sIc_ge (p := 30) rfl rfl ⟨by omega, by omega⟩ ⟨by omega, by omega⟩ (fun c2 => ?_) (fun c2 => ?_)
        · exfalso; omega
        · have c2 := c2
          refine sL (pc' := 31) (i := .aload_n 0) rfl rfl ?_
          refine sGi (p := 34) rfl rfl (sk_69 _) rfl rfl rfl hAa.2.1 ?_
          refine sKs (p := 37) rfl rfl ?_
          refine sIc_ne (p := 40) rfl rfl ⟨by omega, by omega⟩ ⟨by omega, by omega⟩ (fun c3 => ?_) (fun c3 => ?_)
          · exfalso; omega
          · have c3 := c3
            refine sL (pc' := 41) (i := .aload_n 0) rfl rfl ?_
            refine sCvQ (p := 44) (as := []) rfl rfl rfl rfl (by decide) (Nat.le_of_ble_eq_true rfl) rfl (Nat.le_of_ble_eq_true rfl) (sk_69 _) rfl (by omega) (c_advance hEa hAa hlt) ?_
            rintro _ Sb ⟨rfl, hAb, hfb⟩
            have hEb := rdE_fr hEa hfb
            refine sL (pc' := 45) (i := .aload_n 0) rfl rfl ?_
            refine sL (pc' := 46) (i := .iload_n 1) rfl rfl ?_
            refine sL (pc' := 47) (i := .iload_n 2) rfl rfl ?_
            refine sKi (p := 48) rfl rfl ?_
            refine sAd (p := 49) rfl rfl ?_
            refine sCvQ (p := 52) (as := [_, _]) rfl rfl rfl rfl (by decide) (Nat.le_of_ble_eq_true rfl) rfl (Nat.le_of_ble_eq_true rfl) (sk_69 _) rfl (by omega) (hs.1 Sb ((lit (pr sz n) 1 (ivS K (pr sz n) f) i t).2.1 + 1) (a + 1) hEb hAb hlt (by omega)) ?_
            rintro _ Sc ⟨rfl, hfc, hrc, hvc⟩
            have hEc := rdE_fr hEb hfc
            have hva2 : rowS Sc (71 + a) 0 (lit (pr sz n) 1 (ivS K (pr sz n) f) i t).2.2 := rowS_fr hfc (by omega) (rowS_fr (a := 106) hfb (by omega) hva1)
            obtain ⟨g, hg, hgv⟩ : ∃ g, rowS Sc (71 + (a + 1)) 0 g ∧ ((f ((lit (pr sz n) 1 (ivS K (pr sz n) f) i t).2.1 + 1)).1 = 0 → g = (f ((lit (pr sz n) 1 (ivS K (pr sz n) f) i t).2.1 + 1)).2.2) := by
              by_cases q0 : (f ((lit (pr sz n) 1 (ivS K (pr sz n) f) i t).2.1 + 1)).1 = 0
              · exact ⟨_, hvc q0, fun _ => rfl⟩
              · obtain ⟨g, hg⟩ := rowS_ex Sc (71 + (a + 1))
                exact ⟨g, hg, fun z => absurd z q0⟩
            obtain ⟨t2, ht2⟩ : ∃ t2, SI Sc 69 5 = t2 := ⟨_, rfl⟩
            have hq2 := rS_tok hrc
            rw [ht2] at hq2
            have hk2 := hK (f ((lit (pr sz n) 1 (ivS K (pr sz n) f) i t).2.1 + 1)).2.1
            have ht2b : 0 ≤ t2 ∧ t2 ≤ 266 := by
              by_cases q0 : (f ((lit (pr sz n) 1 (ivS K (pr sz n) f) i t).2.1 + 1)).1 = 0
              · rw [if_pos q0] at hq2
                omega
              · rw [if_neg q0] at hq2
                omega
            refine sL (pc' := 53) (i := .aload_n 0) rfl rfl ?_
            refine sGi (p := 56) rfl rfl (sk_69 _) rfl rfl rfl ht2 ?_
            refine sKs (p := 59) rfl rfl ?_
            refine sIc_ne (p := 62) rfl rfl ⟨by omega, by omega⟩ ⟨by omega, by omega⟩ (fun c4 => ?_) (fun c4 => ?_)
            · have c4 := c4
              have hn2 : ¬ ((f ((lit (pr sz n) 1 (ivS K (pr sz n) f) i t).2.1 + 1)).1 = 0 ∧ K (f ((lit (pr sz n) 1 (ivS K (pr sz n) f) i t).2.1 + 1)).2.1 = 256) := fun z => by
                rw [if_pos z.1] at hq2
                omega
              refine sL (pc' := 70) (i := .aload_n 0) rfl rfl ?_
              refine sGc (p := 73) rfl rfl (sk_69 _) rfl rfl rfl ?_
              refine sL (pc' := 74) (i := .aload_n 0) rfl rfl ?_
              refine sL (pc' := 75) (i := .iload_n 2) rfl rfl ?_
              refine sCv (p := 78) (as := [_]) rfl rfl rfl rfl (by decide) (Nat.le_of_ble_eq_true rfl) rfl (Nat.le_of_ble_eq_true rfl) (sk_69 _) rfl (by omega) (c_slot (a := a) (by omega)) ?_
              refine sKi (p := 79) rfl rfl ?_
              refine sL (pc' := 80) (i := .aload_n 0) rfl rfl ?_
              refine sL (pc' := 81) (i := .iload_n 2) rfl rfl ?_
              refine sCv (p := 84) (as := [_]) rfl rfl rfl rfl (by decide) (Nat.le_of_ble_eq_true rfl) rfl (Nat.le_of_ble_eq_true rfl) (sk_69 _) rfl (by omega) (c_slot (a := a) (by omega)) ?_
              refine sL (pc' := 85) (i := .aload_n 0) rfl rfl ?_
              refine sL (pc' := 86) (i := .iload_n 2) rfl rfl ?_
              refine sKi (p := 87) rfl rfl ?_
              refine sAd (p := 88) rfl rfl ?_
              refine sCv (p := 91) (as := [_]) rfl rfl rfl rfl (by decide) (Nat.le_of_ble_eq_true rfl) rfl (Nat.le_of_ble_eq_true rfl) (sk_69 _) rfl (by omega) (c_slot (a := a + 1) (by omega)) ?_
              refine sCv (p := 94) (as := [_, _, _, _]) rfl rfl rfl rfl (by decide) (Nat.le_of_ble_eq_true rfl) rfl (Nat.le_of_ble_eq_true rfl) (sk_7 _) rfl (by omega) (c_combine (S := Sc) (T := pr sz n) (op := 1) (sk_slots _ (by omega)) (sk_slots _ (by omega)) (sk_slots _ (by omega)) hva2 hg hEc.2.2.2.2.1 (by omega) (by decide)) ?_
              refine sInX (z := ((t : Nat) : Int)) (ls' := [some (.ref 69), some (.int (iI ((d : Nat) : Int))), some (.int (iI ((a : Nat) : Int))), some (.int (iI (((t : Nat) : Int) + 1)))]) (p := 97) rfl rfl (Nat.le_of_ble_eq_true rfl) rfl rfl ?_
              refine sL (i := .goto (-74)) rfl rfl ?_
              refine sFg (ls := [some (.ref 69), some (.int (iI ((d : Nat) : Int))), some (.int (iI ((a : Nat) : Int))), some (.int (iI ((t + 1 : Nat) : Int)))]) (xx_ll_le (And.intro rfl (And.intro rfl (And.intro rfl (And.intro rfl (True.intro)))))) (ih23 _ ?_)
              have e9 : ivS K (pr sz n) f ((lit (pr sz n) 1 (ivS K (pr sz n) f) i t).2.1 + 1) = f ((lit (pr sz n) 1 (ivS K (pr sz n) f) i t).2.1 + 1) := if_neg hn2
              have e8 : lit (pr sz n) 1 (ivS K (pr sz n) f) i (t + 1) = ((ivS K (pr sz n) f ((lit (pr sz n) 1 (ivS K (pr sz n) f) i t).2.1 + 1)).1, (ivS K (pr sz n) f ((lit (pr sz n) 1 (ivS K (pr sz n) f) i t).2.1 + 1)).2.1, fun r => jn 1 ((lit (pr sz n) 1 (ivS K (pr sz n) f) i t).2.2 r) ((ivS K (pr sz n) f ((lit (pr sz n) 1 (ivS K (pr sz n) f) i t).2.1 + 1)).2.2 r) && decide (r < pr sz n)) := rfl
              rw [e8, e9]
              exact ⟨frR_trans hfa (frR_trans (frR_le hfb (by omega)) (frR_trans (frR_le hfc (by omega)) (frR_row (Nat.le_refl _) (by omega)))), hrc, fun z => by rw [hgv z]; exact rowS_wRw _ _ _ _⟩
            · have c4 := c4
              have hn2 : (f ((lit (pr sz n) 1 (ivS K (pr sz n) f) i t).2.1 + 1)).1 = 0 ∧ K (f ((lit (pr sz n) 1 (ivS K (pr sz n) f) i t).2.1 + 1)).2.1 = 256 := by
                by_cases q0 : (f ((lit (pr sz n) 1 (ivS K (pr sz n) f) i t).2.1 + 1)).1 = 0
                · rw [if_pos q0] at hq2
                  exact ⟨q0, by omega⟩
                · rw [if_neg q0] at hq2
                  omega
              refine sL (pc' := 63) (i := .aload_n 0) rfl rfl ?_
              refine sL (pc' := 64) (i := .iload_n 2) rfl rfl ?_
              refine sKi (p := 65) rfl rfl ?_
              refine sAd (p := 66) rfl rfl ?_
              refine sCv (p := 69) (as := [_]) rfl rfl rfl rfl (by decide) (Nat.le_of_ble_eq_true rfl) rfl (Nat.le_of_ble_eq_true rfl) (sk_69 _) rfl (by omega) (c_invert (a := a + 1) (by omega) hEc.2.2.2.2.1 hg) ?_
              refine sL (pc' := 70) (i := .aload_n 0) rfl rfl ?_
              refine sGc (p := 73) rfl rfl (sk_69 _) rfl rfl rfl ?_
              refine sL (pc' := 74) (i := .aload_n 0) rfl rfl ?_
              refine sL (pc' := 75) (i := .iload_n 2) rfl rfl ?_
              refine sCv (p := 78) (as := [_]) rfl rfl rfl rfl (by decide) (Nat.le_of_ble_eq_true rfl) rfl (Nat.le_of_ble_eq_true rfl) (sk_69 _) rfl (by omega) (c_slot (a := a) (by omega)) ?_
              refine sKi (p := 79) rfl rfl ?_
              refine sL (pc' := 80) (i := .aload_n 0) rfl rfl ?_
              refine sL (pc' := 81) (i := .iload_n 2) rfl rfl ?_
              refine sCv (p := 84) (as := [_]) rfl rfl rfl rfl (by decide) (Nat.le_of_ble_eq_true rfl) rfl (Nat.le_of_ble_eq_true rfl) (sk_69 _) rfl (by omega) (c_slot (a := a) (by omega)) ?_
              refine sL (pc' := 85) (i := .aload_n 0) rfl rfl ?_
              refine sL (pc' := 86) (i := .iload_n 2) rfl rfl ?_
              refine sKi (p := 87) rfl rfl ?_
              refine sAd (p := 88) rfl rfl ?_
              refine sCv (p := 91) (as := [_]) rfl rfl rfl rfl (by decide) (Nat.le_of_ble_eq_true rfl) rfl (Nat.le_of_ble_eq_true rfl) (sk_69 _) rfl (by omega) (c_slot (a := a + 1) (by omega)) ?_
              refine sCv (p := 94) (as := [_, _, _, _]) rfl rfl rfl rfl (by decide) (Nat.le_of_ble_eq_true rfl) rfl (Nat.le_of_ble_eq_true rfl) (sk_7 _) rfl (by omega) (c_combine (S := (wRw Sc (71 + (a + 1)) 0 (ivt (pr sz n) g))) (T := pr sz n) (op := 1) (sk_slots _ (by omega)) (sk_slots _ (by omega)) (sk_slots _ (by omega)) (rowS_ne (Or.inl (by omega)) hva2) (rowS_wRw _ _ _ _) (rowS_ne (Or.inl (by omega)) hEc.2.2.2.2.1) (by omega) (by decide)) ?_
              refine sInX (z := ((t : Nat) : Int)) (ls' := [some (.ref 69), some (.int (iI ((d : Nat) : Int))), some (.int (iI ((a : Nat) : Int))), some (.int (iI (((t : Nat) : Int) + 1)))]) (p := 97) rfl rfl (Nat.le_of_ble_eq_true rfl) rfl rfl ?_
              refine sL (i := .goto (-74)) rfl rfl ?_
              refine sFg (ls := [some (.ref 69), some (.int (iI ((d : Nat) : Int))), some (.int (iI ((a : Nat) : Int))), some (.int (iI ((t + 1 : Nat) : Int)))]) (xx_ll_le (And.intro rfl (And.intro rfl (And.intro rfl (And.intro rfl (True.intro)))))) (ih23 _ ?_)
              have e9 : ivS K (pr sz n) f ((lit (pr sz n) 1 (ivS K (pr sz n) f) i t).2.1 + 1) = (0, (f ((lit (pr sz n) 1 (ivS K (pr sz n) f) i t).2.1 + 1)).2.1, ivt (pr sz n) (f ((lit (pr sz n) 1 (ivS K (pr sz n) f) i t).2.1 + 1)).2.2) := if_pos hn2
              have e8 : lit (pr sz n) 1 (ivS K (pr sz n) f) i (t + 1) = ((ivS K (pr sz n) f ((lit (pr sz n) 1 (ivS K (pr sz n) f) i t).2.1 + 1)).1, (ivS K (pr sz n) f ((lit (pr sz n) 1 (ivS K (pr sz n) f) i t).2.1 + 1)).2.1, fun r => jn 1 ((lit (pr sz n) 1 (ivS K (pr sz n) f) i t).2.2 r) ((ivS K (pr sz n) f ((lit (pr sz n) 1 (ivS K (pr sz n) f) i t).2.1 + 1)).2.2 r) && decide (r < pr sz n)) := rfl
              rw [e8, e9]
              have hrc2 : rS Sc K A m 0 (f ((lit (pr sz n) 1 (ivS K (pr sz n) f) i t).2.1 + 1)).2.1 := by have h9 := hrc; rw [hn2.1] at h9; exact h9
              exact ⟨frR_trans hfa (frR_trans (frR_le hfb (by omega)) (frR_trans (frR_le hfc (by omega)) (frR_trans (frR_row (by omega) (by omega)) (frR_row (Nat.le_refl _) (by omega))))), hrc2, fun _ => by rw [hgv hn2.1]; exact rowS_wRw _ _ _ _⟩
      · have hJ23 := hJ23
        obtain ⟨hfa, hra, hva⟩ := hJ23
        obtain ⟨tkv, htk⟩ : ∃ tkv, SI Saf 69 5 = tkv := ⟨_, rfl⟩
        have htv := rS_tok hra
        rw [htk] at htv
        have hKf := hK (lit (pr sz n) 1 (ivS K (pr sz n) f) i (lnN K (pr sz n) 256 1 (ivS K (pr sz n) f) i)).2.1
        have hrt : (0 ≤ tkv ∧ tkv ≤ 266) ∧ (lnN K (pr sz n) 256 1 (ivS K (pr sz n) f) i < 400 → tkv ≠ 256) := by
          have hN3 := hN.2.2
          by_cases q0 : (lit (pr sz n) 1 (ivS K (pr sz n) f) i (lnN K (pr sz n) 256 1 (ivS K (pr sz n) f) i)).1 = 0
          · rw [if_pos q0] at htv
            omega
          · rw [if_neg q0] at htv
            omega
        refine sL (pc' := 24) (i := .iload_n 3) rfl rfl ?_
        refine sKs (p := 27) rfl rfl ?_
        refine sIc_ge (p := 30) rfl rfl ⟨by omega, by omega⟩ ⟨by omega, by omega⟩ (fun c5 => ?_) (fun c5 => ?_)
        · have c5 := c5
          refine sEn (i := .return_) rfl (rfl) ?_
          rw [hS0] at hfa
          exact ⟨rfl, hfa, hra, hva⟩
        · have c5 := c5
          refine sL (pc' := 31) (i := .aload_n 0) rfl rfl ?_
          refine sGi (p := 34) rfl rfl (sk_69 _) rfl rfl rfl htk ?_
          refine sKs (p := 37) rfl rfl ?_
          refine sIc_ne (p := 40) rfl rfl ⟨by omega, by omega⟩ ⟨by omega, by omega⟩ (fun c6 => ?_) (fun c6 => ?_)
          · have c6 := c6
            refine sEn (i := .return_) rfl (rfl) ?_
            rw [hS0] at hfa
            exact ⟨rfl, hfa, hra, hva⟩
          · exfalso; omega
    · have c1 := c1
      have hn1 : (f i).1 = 0 ∧ K (f i).2.1 = 256 := by
        by_cases q0 : (f i).1 = 0
        · rw [if_pos q0] at hq1
          exact ⟨q0, by omega⟩
        · rw [if_neg q0] at hq1
          omega
      obtain ⟨hi1, hA1⟩ : (f i).2.1 ≤ m ∧ rA S1 K (f i).2.1 := by
        rcases hr1 with ⟨_, h1, h2⟩ | ⟨h1, _⟩
        · exact ⟨h1, h2⟩
        · exact absurd hn1.1 h1
      refine sL (pc' := 17) (i := .aload_n 0) rfl rfl ?_
      refine sL (pc' := 18) (i := .iload_n 2) rfl rfl ?_
      refine sCv (p := 21) (as := [_]) rfl rfl rfl rfl (by decide) (Nat.le_of_ble_eq_true rfl) rfl (Nat.le_of_ble_eq_true rfl) (sk_69 _) rfl (by omega) (c_invert (a := a) (by omega) hE1.2.2.2.2.1 (hv1 hn1.1)) ?_
      refine sKi (p := 22) rfl rfl ?_
      refine sL (pc' := 23) (i := .istore_n 3) (ls' := [some (.ref 69), some (.int (iI ((d : Nat) : Int))), some (.int (iI ((a : Nat) : Int))), some (.int (iI 0))]) rfl rfl ?_
      refine sItR (A := fun t => [some (.ref 69), some (.int (iI ((d : Nat) : Int))), some (.int (iI ((a : Nat) : Int))), some (.int (iI ((t : Nat) : Int)))]) (fun t S => frR a S0 S ∧ rS S K A m (lit (pr sz n) 1 (ivS K (pr sz n) f) i t).1 (lit (pr sz n) 1 (ivS K (pr sz n) f) i t).2.1 ∧ ((lit (pr sz n) 1 (ivS K (pr sz n) f) i t).1 = 0 → rowS S (71 + a) 0 (lit (pr sz n) 1 (ivS K (pr sz n) f) i t).2.2)) (lnN K (pr sz n) 256 1 (ivS K (pr sz n) f) i) (⟨frR_trans hf1 (frR_row (Nat.le_refl _) (by omega)), by rw [show lit (pr sz n) 1 (ivS K (pr sz n) f) i 0 = _ from if_pos hn1]; exact Or.inl ⟨rfl, hi1, hA1⟩, by rw [show lit (pr sz n) 1 (ivS K (pr sz n) f) i 0 = _ from if_pos hn1]; exact fun _ => rowS_wRw _ _ _ _⟩) (fun t hi23 Sa hJ23 ih23 => ?_) (fun Saf hJ23 => ?_)
      · have hi23 := hi23
        obtain ⟨hfa, hra, hva⟩ := hJ23
        have hgo := hN.2.1 t hi23
        have hEa := rdE_fr hE0 hfa
        have hva1 := hva hgo.1
        obtain ⟨hia, hAa⟩ : (lit (pr sz n) 1 (ivS K (pr sz n) f) i t).2.1 ≤ m ∧ rA Sa K (lit (pr sz n) 1 (ivS K (pr sz n) f) i t).2.1 := by
          rcases hra with ⟨_, h1, h2⟩ | ⟨h1, _⟩
          · exact ⟨h1, h2⟩
          · exact absurd hgo.1 h1
        have hlt := rdE_i hEa hia (by omega) (by omega)
        refine sL (pc' := 24) (i := .iload_n 3) rfl rfl ?_
        refine sKs (p := 27) rfl rfl ?_
        refine sIc_ge (p := 30) rfl rfl ⟨by omega, by omega⟩ ⟨by omega, by omega⟩ (fun c7 => ?_) (fun c7 => ?_)
        · exfalso; omega
        · have c7 := c7
          refine sL (pc' := 31) (i := .aload_n 0) rfl rfl ?_
          refine sGi (p := 34) rfl rfl (sk_69 _) rfl rfl rfl hAa.2.1 ?_
          refine sKs (p := 37) rfl rfl ?_
          refine sIc_ne (p := 40) rfl rfl ⟨by omega, by omega⟩ ⟨by omega, by omega⟩ (fun c8 => ?_) (fun c8 => ?_)
          · exfalso; omega
          · have c8 := c8
            refine sL (pc' := 41) (i := .aload_n 0) rfl rfl ?_
            refine sCvQ (p := 44) (as := []) rfl rfl rfl rfl (by decide) (Nat.le_of_ble_eq_true rfl) rfl (Nat.le_of_ble_eq_true rfl) (sk_69 _) rfl (by omega) (c_advance hEa hAa hlt) ?_
            rintro _ Sb ⟨rfl, hAb, hfb⟩
            have hEb := rdE_fr hEa hfb
            refine sL (pc' := 45) (i := .aload_n 0) rfl rfl ?_
            refine sL (pc' := 46) (i := .iload_n 1) rfl rfl ?_
            refine sL (pc' := 47) (i := .iload_n 2) rfl rfl ?_
            refine sKi (p := 48) rfl rfl ?_
            refine sAd (p := 49) rfl rfl ?_
            refine sCvQ (p := 52) (as := [_, _]) rfl rfl rfl rfl (by decide) (Nat.le_of_ble_eq_true rfl) rfl (Nat.le_of_ble_eq_true rfl) (sk_69 _) rfl (by omega) (hs.1 Sb ((lit (pr sz n) 1 (ivS K (pr sz n) f) i t).2.1 + 1) (a + 1) hEb hAb hlt (by omega)) ?_
            rintro _ Sc ⟨rfl, hfc, hrc, hvc⟩
            have hEc := rdE_fr hEb hfc
            have hva2 : rowS Sc (71 + a) 0 (lit (pr sz n) 1 (ivS K (pr sz n) f) i t).2.2 := rowS_fr hfc (by omega) (rowS_fr (a := 106) hfb (by omega) hva1)
            obtain ⟨g, hg, hgv⟩ : ∃ g, rowS Sc (71 + (a + 1)) 0 g ∧ ((f ((lit (pr sz n) 1 (ivS K (pr sz n) f) i t).2.1 + 1)).1 = 0 → g = (f ((lit (pr sz n) 1 (ivS K (pr sz n) f) i t).2.1 + 1)).2.2) := by
              by_cases q0 : (f ((lit (pr sz n) 1 (ivS K (pr sz n) f) i t).2.1 + 1)).1 = 0
              · exact ⟨_, hvc q0, fun _ => rfl⟩
              · obtain ⟨g, hg⟩ := rowS_ex Sc (71 + (a + 1))
                exact ⟨g, hg, fun z => absurd z q0⟩
            obtain ⟨t2, ht2⟩ : ∃ t2, SI Sc 69 5 = t2 := ⟨_, rfl⟩
            have hq2 := rS_tok hrc
            rw [ht2] at hq2
            have hk2 := hK (f ((lit (pr sz n) 1 (ivS K (pr sz n) f) i t).2.1 + 1)).2.1
            have ht2b : 0 ≤ t2 ∧ t2 ≤ 266 := by
              by_cases q0 : (f ((lit (pr sz n) 1 (ivS K (pr sz n) f) i t).2.1 + 1)).1 = 0
              · rw [if_pos q0] at hq2
                omega
              · rw [if_neg q0] at hq2
                omega
            refine sL (pc' := 53) (i := .aload_n 0) rfl rfl ?_
            refine sGi (p := 56) rfl rfl (sk_69 _) rfl rfl rfl ht2 ?_
            refine sKs (p := 59) rfl rfl ?_
            refine sIc_ne (p := 62) rfl rfl ⟨by omega, by omega⟩ ⟨by omega, by omega⟩ (fun c9 => ?_) (fun c9 => ?_)
            · have c9 := c9
              have hn2 : ¬ ((f ((lit (pr sz n) 1 (ivS K (pr sz n) f) i t).2.1 + 1)).1 = 0 ∧ K (f ((lit (pr sz n) 1 (ivS K (pr sz n) f) i t).2.1 + 1)).2.1 = 256) := fun z => by
                rw [if_pos z.1] at hq2
                omega
              refine sL (pc' := 70) (i := .aload_n 0) rfl rfl ?_
              refine sGc (p := 73) rfl rfl (sk_69 _) rfl rfl rfl ?_
              refine sL (pc' := 74) (i := .aload_n 0) rfl rfl ?_
              refine sL (pc' := 75) (i := .iload_n 2) rfl rfl ?_
              refine sCv (p := 78) (as := [_]) rfl rfl rfl rfl (by decide) (Nat.le_of_ble_eq_true rfl) rfl (Nat.le_of_ble_eq_true rfl) (sk_69 _) rfl (by omega) (c_slot (a := a) (by omega)) ?_
              refine sKi (p := 79) rfl rfl ?_
              refine sL (pc' := 80) (i := .aload_n 0) rfl rfl ?_
              refine sL (pc' := 81) (i := .iload_n 2) rfl rfl ?_
              refine sCv (p := 84) (as := [_]) rfl rfl rfl rfl (by decide) (Nat.le_of_ble_eq_true rfl) rfl (Nat.le_of_ble_eq_true rfl) (sk_69 _) rfl (by omega) (c_slot (a := a) (by omega)) ?_
              refine sL (pc' := 85) (i := .aload_n 0) rfl rfl ?_
              refine sL (pc' := 86) (i := .iload_n 2) rfl rfl ?_
              refine sKi (p := 87) rfl rfl ?_
              refine sAd (p := 88) rfl rfl ?_
              refine sCv (p := 91) (as := [_]) rfl rfl rfl rfl (by decide) (Nat.le_of_ble_eq_true rfl) rfl (Nat.le_of_ble_eq_true rfl) (sk_69 _) rfl (by omega) (c_slot (a := a + 1) (by omega)) ?_
              refine sCv (p := 94) (as := [_, _, _, _]) rfl rfl rfl rfl (by decide) (Nat.le_of_ble_eq_true rfl) rfl (Nat.le_of_ble_eq_true rfl) (sk_7 _) rfl (by omega) (c_combine (S := Sc) (T := pr sz n) (op := 1) (sk_slots _ (by omega)) (sk_slots _ (by omega)) (sk_slots _ (by omega)) hva2 hg hEc.2.2.2.2.1 (by omega) (by decide)) ?_
              refine sInX (z := ((t : Nat) : Int)) (ls' := [some (.ref 69), some (.int (iI ((d : Nat) : Int))), some (.int (iI ((a : Nat) : Int))), some (.int (iI (((t : Nat) : Int) + 1)))]) (p := 97) rfl rfl (Nat.le_of_ble_eq_true rfl) rfl rfl ?_
              refine sL (i := .goto (-74)) rfl rfl ?_
              refine sFg (ls := [some (.ref 69), some (.int (iI ((d : Nat) : Int))), some (.int (iI ((a : Nat) : Int))), some (.int (iI ((t + 1 : Nat) : Int)))]) (xx_ll_le (And.intro rfl (And.intro rfl (And.intro rfl (And.intro rfl (True.intro)))))) (ih23 _ ?_)
              have e9 : ivS K (pr sz n) f ((lit (pr sz n) 1 (ivS K (pr sz n) f) i t).2.1 + 1) = f ((lit (pr sz n) 1 (ivS K (pr sz n) f) i t).2.1 + 1) := if_neg hn2
              have e8 : lit (pr sz n) 1 (ivS K (pr sz n) f) i (t + 1) = ((ivS K (pr sz n) f ((lit (pr sz n) 1 (ivS K (pr sz n) f) i t).2.1 + 1)).1, (ivS K (pr sz n) f ((lit (pr sz n) 1 (ivS K (pr sz n) f) i t).2.1 + 1)).2.1, fun r => jn 1 ((lit (pr sz n) 1 (ivS K (pr sz n) f) i t).2.2 r) ((ivS K (pr sz n) f ((lit (pr sz n) 1 (ivS K (pr sz n) f) i t).2.1 + 1)).2.2 r) && decide (r < pr sz n)) := rfl
              rw [e8, e9]
              exact ⟨frR_trans hfa (frR_trans (frR_le hfb (by omega)) (frR_trans (frR_le hfc (by omega)) (frR_row (Nat.le_refl _) (by omega)))), hrc, fun z => by rw [hgv z]; exact rowS_wRw _ _ _ _⟩
            · have c9 := c9
              have hn2 : (f ((lit (pr sz n) 1 (ivS K (pr sz n) f) i t).2.1 + 1)).1 = 0 ∧ K (f ((lit (pr sz n) 1 (ivS K (pr sz n) f) i t).2.1 + 1)).2.1 = 256 := by
                by_cases q0 : (f ((lit (pr sz n) 1 (ivS K (pr sz n) f) i t).2.1 + 1)).1 = 0
                · rw [if_pos q0] at hq2
                  exact ⟨q0, by omega⟩
                · rw [if_neg q0] at hq2
                  omega
              refine sL (pc' := 63) (i := .aload_n 0) rfl rfl ?_
              refine sL (pc' := 64) (i := .iload_n 2) rfl rfl ?_
              refine sKi (p := 65) rfl rfl ?_
              refine sAd (p := 66) rfl rfl ?_
              refine sCv (p := 69) (as := [_]) rfl rfl rfl rfl (by decide) (Nat.le_of_ble_eq_true rfl) rfl (Nat.le_of_ble_eq_true rfl) (sk_69 _) rfl (by omega) (c_invert (a := a + 1) (by omega) hEc.2.2.2.2.1 hg) ?_
              refine sL (pc' := 70) (i := .aload_n 0) rfl rfl ?_
              refine sGc (p := 73) rfl rfl (sk_69 _) rfl rfl rfl ?_
              refine sL (pc' := 74) (i := .aload_n 0) rfl rfl ?_
              refine sL (pc' := 75) (i := .iload_n 2) rfl rfl ?_
              refine sCv (p := 78) (as := [_]) rfl rfl rfl rfl (by decide) (Nat.le_of_ble_eq_true rfl) rfl (Nat.le_of_ble_eq_true rfl) (sk_69 _) rfl (by omega) (c_slot (a := a) (by omega)) ?_
              refine sKi (p := 79) rfl rfl ?_
              refine sL (pc' := 80) (i := .aload_n 0) rfl rfl ?_
              refine sL (pc' := 81) (i := .iload_n 2) rfl rfl ?_
              refine sCv (p := 84) (as := [_]) rfl rfl rfl rfl (by decide) (Nat.le_of_ble_eq_true rfl) rfl (Nat.le_of_ble_eq_true rfl) (sk_69 _) rfl (by omega) (c_slot (a := a) (by omega)) ?_
              refine sL (pc' := 85) (i := .aload_n 0) rfl rfl ?_
              refine sL (pc' := 86) (i := .iload_n 2) rfl rfl ?_
              refine sKi (p := 87) rfl rfl ?_
              refine sAd (p := 88) rfl rfl ?_
              refine sCv (p := 91) (as := [_]) rfl rfl rfl rfl (by decide) (Nat.le_of_ble_eq_true rfl) rfl (Nat.le_of_ble_eq_true rfl) (sk_69 _) rfl (by omega) (c_slot (a := a + 1) (by omega)) ?_
              refine sCv (p := 94) (as := [_, _, _, _]) rfl rfl rfl rfl (by decide) (Nat.le_of_ble_eq_true rfl) rfl (Nat.le_of_ble_eq_true rfl) (sk_7 _) rfl (by omega) (c_combine (S := (wRw Sc (71 + (a + 1)) 0 (ivt (pr sz n) g))) (T := pr sz n) (op := 1) (sk_slots _ (by omega)) (sk_slots _ (by omega)) (sk_slots _ (by omega)) (rowS_ne (Or.inl (by omega)) hva2) (rowS_wRw _ _ _ _) (rowS_ne (Or.inl (by omega)) hEc.2.2.2.2.1) (by omega) (by decide)) ?_
              refine sInX (z := ((t : Nat) : Int)) (ls' := [some (.ref 69), some (.int (iI ((d : Nat) : Int))), some (.int (iI ((a : Nat) : Int))), some (.int (iI (((t : Nat) : Int) + 1)))]) (p := 97) rfl rfl (Nat.le_of_ble_eq_true rfl) rfl rfl ?_
              refine sL (i := .goto (-74)) rfl rfl ?_
              refine sFg (ls := [some (.ref 69), some (.int (iI ((d : Nat) : Int))), some (.int (iI ((a : Nat) : Int))), some (.int (iI ((t + 1 : Nat) : Int)))]) (xx_ll_le (And.intro rfl (And.intro rfl (And.intro rfl (And.intro rfl (True.intro)))))) (ih23 _ ?_)
              have e9 : ivS K (pr sz n) f ((lit (pr sz n) 1 (ivS K (pr sz n) f) i t).2.1 + 1) = (0, (f ((lit (pr sz n) 1 (ivS K (pr sz n) f) i t).2.1 + 1)).2.1, ivt (pr sz n) (f ((lit (pr sz n) 1 (ivS K (pr sz n) f) i t).2.1 + 1)).2.2) := if_pos hn2
              have e8 : lit (pr sz n) 1 (ivS K (pr sz n) f) i (t + 1) = ((ivS K (pr sz n) f ((lit (pr sz n) 1 (ivS K (pr sz n) f) i t).2.1 + 1)).1, (ivS K (pr sz n) f ((lit (pr sz n) 1 (ivS K (pr sz n) f) i t).2.1 + 1)).2.1, fun r => jn 1 ((lit (pr sz n) 1 (ivS K (pr sz n) f) i t).2.2 r) ((ivS K (pr sz n) f ((lit (pr sz n) 1 (ivS K (pr sz n) f) i t).2.1 + 1)).2.2 r) && decide (r < pr sz n)) := rfl
              rw [e8, e9]
              have hrc2 : rS Sc K A m 0 (f ((lit (pr sz n) 1 (ivS K (pr sz n) f) i t).2.1 + 1)).2.1 := by have h9 := hrc; rw [hn2.1] at h9; exact h9
              exact ⟨frR_trans hfa (frR_trans (frR_le hfb (by omega)) (frR_trans (frR_le hfc (by omega)) (frR_trans (frR_row (by omega) (by omega)) (frR_row (Nat.le_refl _) (by omega))))), hrc2, fun _ => by rw [hgv hn2.1]; exact rowS_wRw _ _ _ _⟩
      · have hJ23 := hJ23
        obtain ⟨hfa, hra, hva⟩ := hJ23
        obtain ⟨tkv, htk⟩ : ∃ tkv, SI Saf 69 5 = tkv := ⟨_, rfl⟩
        have htv := rS_tok hra
        rw [htk] at htv
        have hKf := hK (lit (pr sz n) 1 (ivS K (pr sz n) f) i (lnN K (pr sz n) 256 1 (ivS K (pr sz n) f) i)).2.1
        have hrt : (0 ≤ tkv ∧ tkv ≤ 266) ∧ (lnN K (pr sz n) 256 1 (ivS K (pr sz n) f) i < 400 → tkv ≠ 256) := by
          have hN3 := hN.2.2
          by_cases q0 : (lit (pr sz n) 1 (ivS K (pr sz n) f) i (lnN K (pr sz n) 256 1 (ivS K (pr sz n) f) i)).1 = 0
          · rw [if_pos q0] at htv
            omega
          · rw [if_neg q0] at htv
            omega
        refine sL (pc' := 24) (i := .iload_n 3) rfl rfl ?_
        refine sKs (p := 27) rfl rfl ?_
        refine sIc_ge (p := 30) rfl rfl ⟨by omega, by omega⟩ ⟨by omega, by omega⟩ (fun c10 => ?_) (fun c10 => ?_)
        · have c10 := c10
          refine sEn (i := .return_) rfl (rfl) ?_
          rw [hS0] at hfa
          exact ⟨rfl, hfa, hra, hva⟩
        · have c10 := c10
          refine sL (pc' := 31) (i := .aload_n 0) rfl rfl ?_
          refine sGi (p := 34) rfl rfl (sk_69 _) rfl rfl rfl htk ?_
          refine sKs (p := 37) rfl rfl ?_
          refine sIc_ne (p := 40) rfl rfl ⟨by omega, by omega⟩ ⟨by omega, by omega⟩ (fun c11 => ?_) (fun c11 => ?_)
          · have c11 := c11
            refine sEn (i := .return_) rfl (rfl) ?_
            rw [hS0] at hfa
            exact ⟨rfl, hfa, hra, hva⟩
          · exfalso; omega
  · have hX0 := hX
    obtain ⟨⟨j9, hjm, hj9⟩, _⟩ := hX0
    refine sIni (ls := [some (.ref 69), some (.int (iI ((d : Nat) : Int))), some (.int (iI ((a : Nat) : Int))), none]) rfl ?_
    refine sL (pc' := 1) (i := .aload_n 0) rfl rfl ?_
    refine sL (pc' := 2) (i := .iload_n 1) rfl rfl ?_
    refine sL (pc' := 3) (i := .iload_n 2) rfl rfl ?_
    refine sCvQ (p := 6) (as := [_, _]) rfl rfl rfl rfl (by decide) (Nat.le_of_ble_eq_true rfl) rfl (Nat.le_of_ble_eq_true rfl) (sk_69 _) rfl (by omega) (hs.2 S k p a hE hX (by omega)) ?_
    rintro _ S1 ⟨rfl, hf1, hX1⟩
    refine sL (pc' := 7) (i := .aload_n 0) rfl rfl ?_
    refine sGi (p := 10) rfl rfl (sk_69 _) rfl rfl rfl hX1.2.1 ?_
    refine sKs (p := 13) rfl rfl ?_
    refine sIc_ne (p := 16) rfl rfl ⟨by omega, by omega⟩ ⟨by omega, by omega⟩ (fun c1 => ?_) (fun c1 => ?_)
    · have c1 := c1
      refine sKi (p := 22) rfl rfl ?_
      refine sL (pc' := 23) (i := .istore_n 3) (ls' := [some (.ref 69), some (.int (iI ((d : Nat) : Int))), some (.int (iI ((a : Nat) : Int))), some (.int (iI 0))]) rfl rfl ?_
      refine sL (pc' := 24) (i := .iload_n 3) rfl rfl ?_
      refine sKs (p := 27) rfl rfl ?_
      refine sIc_ge (p := 30) rfl rfl ⟨by omega, by omega⟩ ⟨by omega, by omega⟩ (fun c2 => ?_) (fun c2 => ?_)
      · exact absurd c2 (by decide)
      · have c2 := c2
        refine sL (pc' := 31) (i := .aload_n 0) rfl rfl ?_
        refine sGi (p := 34) rfl rfl (sk_69 _) rfl rfl rfl hX1.2.1 ?_
        refine sKs (p := 37) rfl rfl ?_
        refine sIc_ne (p := 40) rfl rfl ⟨by omega, by omega⟩ ⟨by omega, by omega⟩ (fun c3 => ?_) (fun c3 => ?_)
        · have c3 := c3
          refine sEn (i := .return_) rfl (rfl) ?_
          exact ⟨rfl, hf1, hX1⟩
        · exact absurd c3 (by decide)
    · exact absurd c1 (by decide)
end RO
