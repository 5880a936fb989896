/-! ===== the class's reader: lists, constants, names, atoms ===== -/
def msh (x : Int) : Int := (iI 1 <<< (iI x &&& 31)).toInt
def mor (x y : Int) : Int := (iI x ||| iI y).toInt
def pVs (K : Nat → Nat) (C : Nat → Int64) (n i : Nat) : Nat → Nat × Nat × Int
  | 0 => ((pVar K C n i).1, (pVar K C n i).2.1, msh (pVar K C n i).2.2)
  | t + 1 => ((pVar K C n ((pVs K C n i t).2.1 + 1)).1, (pVar K C n ((pVs K C n i t).2.1 + 1)).2.1, mor (pVs K C n i t).2.2 (msh (pVar K C n ((pVs K C n i t).2.1 + 1)).2.2))
def gVs (K : Nat → Nat) (C : Nat → Int64) (n i t : Nat) : Bool := decide ((pVs K C n i t).1 = 0 ∧ K (pVs K C n i t).2.1 = 44)
def nVs (K : Nat → Nat) (C : Nat → Int64) (n i : Nat) : Nat := fbF (fun t => ! (gVs K C n i t)) 400 0
theorem nVs_ok (K : Nat → Nat) (C : Nat → Int64) (n i : Nat) : nVs K C n i ≤ 400 ∧ (∀ t, t < nVs K C n i → (pVs K C n i t).1 = 0 ∧ K (pVs K C n i t).2.1 = 44) ∧ (nVs K C n i < 400 → ¬ ((pVs K C n i (nVs K C n i)).1 = 0 ∧ K (pVs K C n i (nVs K C n i)).2.1 = 44)) := by
  have h := fbF_ok (fun t => ! (gVs K C n i t)) 400 0
  rw [Nat.zero_add] at h
  refine ⟨h.1.2, fun t ht => ?_, fun hN z => ?_⟩
  · have h1 : (! (gVs K C n i t)) = false := h.2.1 t (Nat.zero_le _) ht
    cases h2 : gVs K C n i t with
    | true => exact of_decide_eq_true h2
    | false =>
      rw [h2] at h1
      cases h1
  · have h1 : (! (gVs K C n i (nVs K C n i))) = true := h.2.2 hN
    rw [show gVs K C n i (nVs K C n i) = true from decide_eq_true z] at h1
    cases h1
/-- a list of variables quantified -/
def bdA (sz : Nat → Nat) (n : Nat) (all : Bool) (x : Int) (f : Nat → Bool) : Nat → Nat → Bool
  | 0 => f
  | v + 1 => if iB (iI x) v then (fun r => if r < pr sz n then qnt sz all (bdA sz n all x f v) v r else bdA sz n all x f v r) else bdA sz n all x f v
section RV
variable {X : List Int32} {S : ST} {K A : Nat → Nat} {C : Nat → Int64} {m n fn dr : Nat} {sz : Nat → Nat} {Fn : Nat → Nat → Bool} {nm : Nat → Int64}
theorem wRw_self {a : Nat} {f : Nat → Bool} (h : rowS S a 0 f) : wRw S a 0 f = S := st_ext rfl rfl (funext fun b => funext fun k => by
  rw [SL_wRw]
  split
  · rename_i q
    rw [q.1]
    have := h k (by omega)
    rw [Nat.zero_add] at this
    exact this.symm
  · rfl) rfl
theorem c_bindAll {a : Nat} {f : Nat → Bool} {x : Int} {all : Bool} (hE : rdE S K A C m n sz fn dr Fn nm) (ha : a < 106) (hf : rowS S (71 + a) 0 f) : sM X 3 103 [.ref 69, .int (iI ((a : Nat) : Int)), .int (iI x), .int (iI (bI all))] S (sV none (wRw S (71 + a) 0 (bdA sz n all x f n))) := by
  have hv := hE.2.2.2.1
  have hn10 := hv.1.1
  refine sIni (ls := [some (.ref 69), some (.int (iI ((a : Nat) : Int))), some (.int (iI x)), some (.int (iI (bI all))), none]) rfl ?_
  refine sKi (p := 1) rfl rfl ?_
  refine sL (pc' := 3) (i := .istore 4) (ls' := [some (.ref 69), some (.int (iI ((a : Nat) : Int))), some (.int (iI x)), some (.int (iI (bI all))), some (.int (iI 0))]) rfl rfl ?_
  refine sSh (T := (wRw S (71 + a) 0 (bdA sz n all x f 0))) (congrArg sH (wRw_self hf).symm) ?_
  refine sIt (A := fun v => [some (.ref 69), some (.int (iI ((a : Nat) : Int))), some (.int (iI x)), some (.int (iI (bI all))), some (.int (iI ((v : Nat) : Int)))]) (B := fun v => (wRw S (71 + a) 0 (bdA sz n all x f v))) (fun _ => True) n True.intro (fun v hi3 hI3 ih3 => ?_) (fun hI3 => ?_)
  · have hi3 := hi3
    refine sL (pc' := 5) (i := .iload 4) rfl rfl ?_
    refine sL (pc' := 6) (i := .aload_n 0) rfl rfl ?_
    refine sGc (p := 9) rfl rfl (sk_69 _) rfl rfl rfl ?_
    refine sGi (p := 12) rfl rfl (sk_1 _) rfl rfl rfl hv.2.1 ?_
    refine sIc_ge (p := 15) rfl rfl ⟨by omega, by omega⟩ ⟨by omega, by omega⟩ (fun c1 => ?_) (fun c1 => ?_)
    · exfalso; omega
    · have c1 := c1
      refine sL (pc' := 16) (i := .iload_n 2) rfl rfl ?_
      refine sL (pc' := 18) (i := .iload 4) rfl rfl ?_
      refine sMb (p := 21) (j := v) rfl rfl rfl rfl rfl rfl (by omega) ?_
      refine sBe (p := 24) rfl rfl (fun c2 => ?_) (fun c2 => ?_)
      · have c2 := c2
        refine sInX (z := ((v : Nat) : Int)) (ls' := [some (.ref 69), some (.int (iI ((a : Nat) : Int))), some (.int (iI x)), some (.int (iI (bI all))), some (.int (iI (((v : Nat) : Int) + 1)))]) (p := 42) rfl rfl (Nat.le_of_ble_eq_true rfl) rfl rfl ?_
        refine sL (i := .goto (-39)) rfl rfl ?_
        refine sRo (ls := [some (.ref 69), some (.int (iI ((a : Nat) : Int))), some (.int (iI x)), some (.int (iI (bI all))), some (.int (iI ((v + 1 : Nat) : Int)))]) (T := (wRw S (71 + a) 0 (bdA sz n all x f (v + 1)))) (And.intro rfl (And.intro rfl (And.intro rfl (And.intro rfl (And.intro rfl (True.intro)))))) (congrArg sH (by rw [show bdA sz n all x f (v + 1) = bdA sz n all x f v from if_neg (fun q => by rw [show iB (iI x) v = false by assumption] at q; cases q)])) (ih3 ?_)
        exact True.intro
      · have c2 := c2
        refine sL (pc' := 25) (i := .aload_n 0) rfl rfl ?_
        refine sGc (p := 28) rfl rfl (sk_69 _) rfl rfl rfl ?_
        refine sL (pc' := 29) (i := .aload_n 0) rfl rfl ?_
        refine sL (pc' := 30) (i := .iload_n 1) rfl rfl ?_
        refine sCv (p := 33) (as := [_]) rfl rfl rfl rfl (by decide) (Nat.le_of_ble_eq_true rfl) rfl (Nat.le_of_ble_eq_true rfl) (sk_69 _) rfl (by omega) (c_slot ha) ?_
        refine sL (pc' := 35) (i := .iload 4) rfl rfl ?_
        refine sL (pc' := 36) (i := .iload_n 3) rfl rfl ?_
        refine sCv (p := 39) (as := [_, _, _]) rfl rfl rfl rfl (by decide) (Nat.le_of_ble_eq_true rfl) rfl (Nat.le_of_ble_eq_true rfl) (sk_7 _) rfl (by omega) (c_bind (S := wRw S (71 + a) 0 (bdA sz n all x f v)) hv (sk_slots _ ha) (rowS_wRw _ _ _ _) hi3) ?_
        refine sInX (z := ((v : Nat) : Int)) (ls' := [some (.ref 69), some (.int (iI ((a : Nat) : Int))), some (.int (iI x)), some (.int (iI (bI all))), some (.int (iI (((v : Nat) : Int) + 1)))]) (p := 42) rfl rfl (Nat.le_of_ble_eq_true rfl) rfl rfl ?_
        refine sL (i := .goto (-39)) rfl rfl ?_
        refine sRo (ls := [some (.ref 69), some (.int (iI ((a : Nat) : Int))), some (.int (iI x)), some (.int (iI (bI all))), some (.int (iI ((v + 1 : Nat) : Int)))]) (T := (wRw S (71 + a) 0 (bdA sz n all x f (v + 1)))) (And.intro rfl (And.intro rfl (And.intro rfl (And.intro rfl (And.intro rfl (True.intro)))))) (congrArg sH (by rw [show bdA sz n all x f (v + 1) = fun r => if r < pr sz n then qnt sz all (bdA sz n all x f v) v r else bdA sz n all x f v r from if_pos (by assumption)]; exact wRw_wRw _ _ _ _ _)) (ih3 ?_)
        exact True.intro
  · have hI3 := hI3
    refine sL (pc' := 5) (i := .iload 4) rfl rfl ?_
    refine sL (pc' := 6) (i := .aload_n 0) rfl rfl ?_
    refine sGc (p := 9) rfl rfl (sk_69 _) rfl rfl rfl ?_
    refine sGi (p := 12) rfl rfl (sk_1 _) rfl rfl rfl hv.2.1 ?_
    refine sIc_ge (p := 15) rfl rfl ⟨by omega, by omega⟩ ⟨by omega, by omega⟩ (fun c3 => ?_) (fun c3 => ?_)
    · have c3 := c3
      refine sEn (i := .return_) rfl (rfl) ?_
      exact ⟨rfl, rfl⟩
    · exfalso; omega
theorem c_readVariables_d {k p : Nat} (hE : rdE S K A C m n sz fn dr Fn nm) (hX : rX S m k p) : sM X 3 100 [.ref 69] S (fun r S' => ∃ x : Int, r = some (.int (iI x)) ∧ frR 106 S S' ∧ rX S' m k p) := by
  have hX0 := hX
  obtain ⟨⟨j9, hjm, hj9⟩, _⟩ := hX0
  have hm := hE.1.1
  refine sIni (ls := [some (.ref 69), none, none]) rfl ?_
  refine sKi (p := 1) rfl rfl ?_
  refine sL (pc' := 2) (i := .aload_n 0) rfl rfl ?_
  refine sCvQ (p := 5) (as := []) rfl rfl rfl rfl (by decide) (Nat.le_of_ble_eq_true rfl) rfl (Nat.le_of_ble_eq_true rfl) (sk_69 _) rfl (by omega) (c_readVariable_d hE hX) ?_
  rintro _ S1 ⟨x1, hx1, rfl, hf1, hX1⟩
  refine sL (pc' := 6) (i := .ishl) rfl rfl ?_
  rw [show iI 1 <<< (iI x1 &&& 31) = iI (msh x1) from (iI_of _).symm]
  refine sL (pc' := 7) (i := .istore_n 1) (ls' := [some (.ref 69), some (.int (iI (msh x1))), none]) rfl rfl ?_
  refine sKi (p := 8) rfl rfl ?_
  refine sL (pc' := 9) (i := .istore_n 2) (ls' := [some (.ref 69), some (.int (iI (msh x1))), some (.int (iI 0))]) rfl rfl ?_
  refine sL (pc' := 10) (i := .iload_n 2) rfl rfl ?_
  refine sKs (p := 13) rfl rfl ?_
  refine sIc_ge (p := 16) rfl rfl ⟨by omega, by omega⟩ ⟨by omega, by omega⟩ (fun c1 => ?_) (fun c1 => ?_)
  · exact absurd c1 (by decide)
  · have c1 := c1
    refine sL (pc' := 17) (i := .aload_n 0) rfl rfl ?_
    refine sGi (p := 20) rfl rfl (sk_69 _) rfl rfl rfl hX1.2.1 ?_
    refine sKb (p := 22) rfl rfl ?_
    refine sIc_ne (p := 25) rfl rfl ⟨by omega, by omega⟩ ⟨by omega, by omega⟩ (fun c2 => ?_) (fun c2 => ?_)
    · have c2 := c2
      refine sL (pc' := 45) (i := .iload_n 1) rfl rfl ?_
      refine sEn (i := .ireturn) rfl (rfl) ?_
      exact ⟨_, rfl, hf1, hX1⟩
    · exact absurd c2 (by decide)
theorem sItX {d mm pc : Nat} {st : List Value} {Kq : Nat → xx_L → List Value → ST → Prop} {A : Nat → Int → xx_L} (J : Nat → Int → ST → Prop) (N : Nat) (x0 : Int) (h0 : J 0 x0 S) (step : ∀ i x, i < N → ∀ T, J i x T → (∀ x' T', J (i + 1) x' T' → sT X d mm pc (A (i + 1) x') st T' Kq) → sT X d mm pc (A i x) st T Kq) (fin : ∀ x T, J N x T → sT X d mm pc (A N x) st T Kq) : sT X d mm pc (A 0 x0) st S Kq := by
  have go : ∀ j i x T, i + j = N → J i x T → sT X d mm pc (A i x) st T Kq := by
    intro j
    induction j with
    | zero =>
      intro i x T hi hI
      have : i = N := by omega
      subst this
      exact fin x T hI
    | succ j ih =>
      intro i x T hi hI
      exact step i x (by omega) T hI (fun x' T' h => ih (i + 1) x' T' (by omega) h)
  exact go N 0 x0 S (by omega) h0
/-- what the reader's token is -/
theorem rS_tok {k i : Nat} (h : rS S K A m k i) : SI S 69 5 = if k = 0 then ((K i : Nat) : Int) else 266 := by
  rcases h with ⟨h1, _, h2⟩ | ⟨h1, h2⟩
  · rw [if_pos h1]
    exact h2.2.1
  · rw [if_neg h1]
    exact h2.2.1
theorem c_readVariables {i : Nat} (hE : rdE S K A C m n sz fn dr Fn nm) (hA : rA S K i) (hi : i ≤ m) : sM X 3 100 [.ref 69] S (fun r S' => ∃ x : Int, r = some (.int (iI x)) ∧ frR 106 S S' ∧ rS S' K A m (pVs K C n i (nVs K C n i)).1 (pVs K C n i (nVs K C n i)).2.1 ∧ ((pVs K C n i (nVs K C n i)).1 = 0 → x = (pVs K C n i (nVs K C n i)).2.2)) := by
  have hm := hE.1.1
  have hK := hE.1.2.1
  obtain ⟨S0, hS0⟩ : ∃ S0, S0 = S := ⟨_, rfl⟩
  have hE0 : rdE S0 K A C m n sz fn dr Fn nm := by rw [hS0]; exact hE
  have hN := nVs_ok K C n i
  refine sIni (ls := [some (.ref 69), none, none]) rfl ?_
  refine sKi (p := 1) rfl rfl ?_
  refine sL (pc' := 2) (i := .aload_n 0) rfl rfl ?_
  refine sCvQ (p := 5) (as := []) rfl rfl rfl rfl (by decide) (Nat.le_of_ble_eq_true rfl) rfl (Nat.le_of_ble_eq_true rfl) (sk_69 _) rfl (by omega) (c_readVariable hE hA hi) ?_
  rintro _ S1 ⟨x1, hx1, rfl, hf1, hr1, hv1⟩
  rw [← hS0] at hf1
  refine sL (pc' := 6) (i := .ishl) rfl rfl ?_
  rw [show iI 1 <<< (iI x1 &&& 31) = iI (msh x1) from (iI_of _).symm]
  refine sL (pc' := 7) (i := .istore_n 1) (ls' := [some (.ref 69), some (.int (iI (msh x1))), none]) rfl rfl ?_
  refine sKi (p := 8) rfl rfl ?_
  refine sL (pc' := 9) (i := .istore_n 2) (ls' := [some (.ref 69), some (.int (iI (msh x1))), some (.int (iI 0))]) rfl rfl ?_
  refine sItX (A := fun t xa => [some (.ref 69), some (.int (iI xa)), some (.int (iI ((t : Nat) : Int)))]) (fun t xa S => frR 106 S0 S ∧ rS S K A m (pVs K C n i t).1 (pVs K C n i t).2.1 ∧ ((pVs K C n i t).1 = 0 → xa = (pVs K C n i t).2.2)) (nVs K C n i) (msh x1) (⟨hf1, hr1, fun z => congrArg msh (hv1 z)⟩) (fun t xa hi9 Sa hJ9 ih9 => ?_) (fun xa Saf hJ9 => ?_)
  · have hi9 := hi9
    obtain ⟨hfa, hra, hva⟩ := hJ9
    have hgo := hN.2.1 t hi9
    have hEa := rdE_fr hE0 hfa
    obtain ⟨hia, hAa⟩ : (pVs K C n i t).2.1 ≤ m ∧ rA Sa K (pVs K C n i t).2.1 := by
      rcases hra with ⟨_, h1, h2⟩ | ⟨h1, _⟩
      · exact ⟨h1, h2⟩
      · exact absurd hgo.1 h1
    have hlt := rdE_i hEa hia (by omega) (by omega)
    refine sL (pc' := 10) (i := .iload_n 2) rfl rfl ?_
    refine sKs (p := 13) rfl rfl ?_
    refine sIc_ge (p := 16) rfl rfl ⟨by omega, by omega⟩ ⟨by omega, by omega⟩ (fun c1 => ?_) (fun c1 => ?_)
    · exfalso; omega
    · have c1 := c1
      refine sL (pc' := 17) (i := .aload_n 0) rfl rfl ?_
      refine sGi (p := 20) rfl rfl (sk_69 _) rfl rfl rfl hAa.2.1 ?_
      refine sKb (p := 22) rfl rfl ?_
      refine sIc_ne (p := 25) rfl rfl ⟨by omega, by omega⟩ ⟨by omega, by omega⟩ (fun c2 => ?_) (fun c2 => ?_)
      · exfalso; omega
      · have c2 := c2
        refine sL (pc' := 26) (i := .aload_n 0) rfl rfl ?_
        refine sCvQ (p := 29) (as := []) rfl rfl rfl rfl (by decide) (Nat.le_of_ble_eq_true rfl) rfl (Nat.le_of_ble_eq_true rfl) (sk_69 _) rfl (by omega) (c_advance hEa hAa hlt) ?_
        rintro _ Sb ⟨rfl, hAb, hfb⟩
        have hEb := rdE_fr hEa hfb
        refine sL (pc' := 30) (i := .iload_n 1) rfl rfl ?_
        refine sKi (p := 31) rfl rfl ?_
        refine sL (pc' := 32) (i := .aload_n 0) rfl rfl ?_
        refine sCvQ (p := 35) (as := []) rfl rfl rfl rfl (by decide) (Nat.le_of_ble_eq_true rfl) rfl (Nat.le_of_ble_eq_true rfl) (sk_69 _) rfl (by omega) (c_readVariable hEb hAb hlt) ?_
        rintro _ Sc ⟨x2, hx2, rfl, hfc, hrc, hvc⟩
        refine sL (pc' := 36) (i := .ishl) rfl rfl ?_
        rw [show iI 1 <<< (iI x2 &&& 31) = iI (msh x2) from (iI_of _).symm]
        refine sL (pc' := 37) (i := .ior) rfl rfl ?_
        rw [show iI xa ||| iI (msh x2) = iI (mor xa (msh x2)) from (iI_of _).symm]
        refine sL (pc' := 38) (i := .istore_n 1) (ls' := [some (.ref 69), some (.int (iI (mor xa (msh x2)))), some (.int (iI ((t : Nat) : Int)))]) rfl rfl ?_
        refine sInX (z := ((t : Nat) : Int)) (ls' := [some (.ref 69), some (.int (iI (mor xa (msh x2)))), some (.int (iI (((t : Nat) : Int) + 1)))]) (p := 41) rfl rfl (Nat.le_of_ble_eq_true rfl) rfl rfl ?_
        refine sL (i := .goto (-32)) rfl rfl ?_
        refine sFg (ls := [some (.ref 69), some (.int (iI (mor xa (msh x2)))), some (.int (iI ((t + 1 : Nat) : Int)))]) (xx_ll_le (And.intro rfl (And.intro rfl (And.intro rfl (True.intro))))) (ih9 (mor xa (msh x2)) _ ?_)
        exact ⟨frR_trans hfa (frR_trans hfb hfc), hrc, fun z => by rw [show xa = (pVs K C n i t).2.2 from hva hgo.1, show x2 = _ from hvc z]; rfl⟩
  · have hJ9 := hJ9
    obtain ⟨hfa, hra, hva⟩ := hJ9
    obtain ⟨tkv, htk⟩ : ∃ tkv, SI Saf 69 5 = tkv := ⟨_, rfl⟩
    have htv := rS_tok hra
    rw [htk] at htv
    have hKf := hK (pVs K C n i (nVs K C n i)).2.1
    have hrt : (0 ≤ tkv ∧ tkv ≤ 266) ∧ (nVs K C n i < 400 → tkv ≠ 44) := by
      have hN3 := hN.2.2
      by_cases q0 : (pVs K C n i (nVs K C n i)).1 = 0
      · rw [if_pos q0] at htv
        omega
      · rw [if_neg q0] at htv
        omega
    refine sL (pc' := 10) (i := .iload_n 2) rfl rfl ?_
    refine sKs (p := 13) rfl rfl ?_
    refine sIc_ge (p := 16) rfl rfl ⟨by omega, by omega⟩ ⟨by omega, by omega⟩ (fun c3 => ?_) (fun c3 => ?_)
    · have c3 := c3
      refine sL (pc' := 45) (i := .iload_n 1) rfl rfl ?_
      refine sEn (i := .ireturn) rfl (rfl) ?_
      rw [hS0] at hfa
      exact ⟨_, rfl, hfa, hra, hva⟩
    · have c3 := c3
      refine sL (pc' := 17) (i := .aload_n 0) rfl rfl ?_
      refine sGi (p := 20) rfl rfl (sk_69 _) rfl rfl rfl htk ?_
      refine sKb (p := 22) rfl rfl ?_
      refine sIc_ne (p := 25) rfl rfl ⟨by omega, by omega⟩ ⟨by omega, by omega⟩ (fun c4 => ?_) (fun c4 => ?_)
      · have c4 := c4
        refine sL (pc' := 45) (i := .iload_n 1) rfl rfl ?_
        refine sEn (i := .ireturn) rfl (rfl) ?_
        rw [hS0] at hfa
        exact ⟨_, rfl, hfa, hra, hva⟩
      · exfalso; omega
end RV
