/-! ===== the diagram: room made; a function is built ===== -/
def ksz (k : KD) : Nat := match k with
  | .inl (_, n) => n
  | .inr (.inl l) => l.length
  | .inr (.inr (_, fs)) => fs.length
def tz (S : ST) : Nat := (S.1.map ksz).sum
/-- what a call of the diagram leaves alone; what it makes -/
def frD (b R : Nat) (S : ST) (b' R' : Nat) (S' : ST) : Prop := (∃ t, S'.1 = S.1 ++ t) ∧ (∀ c, c ≠ 52 → SR S' c = SR S c) ∧ (∀ c, c < 203 + S.1.length → SL S' c = SL S c) ∧ (∀ c, c < 203 + S.1.length → (c < 52 ∨ 57 < c) → (c < b ∨ b + 5 < c) → SI S' c = SI S c) ∧ (b' = b ∨ 203 + S.1.length ≤ b') ∧ R ≤ R' ∧ tz S' + 22 * R = tz S + 22 * R' ∧ S'.1.length + R ≤ S.1.length + R'
theorem frD_refl (b R : Nat) (S : ST) : frD b R S b R S := ⟨⟨[], (List.append_nil _).symm⟩, fun _ _ => rfl, fun _ _ => rfl, fun _ _ _ _ => rfl, Or.inl rfl, Nat.le_refl _, rfl, Nat.le_refl _⟩
theorem frD_len {b R b' R' : Nat} {S S' : ST} (h : frD b R S b' R' S') : S.1.length ≤ S'.1.length := by
  obtain ⟨t, ht⟩ := h.1
  rw [ht, List.length_append]
  omega
theorem frD_trans {b R b1 R1 b2 R2 : Nat} {S S1 S2 : ST} (h : frD b R S b1 R1 S1) (k : frD b1 R1 S1 b2 R2 S2) : frD b R S b2 R2 S2 := by
  have hl := frD_len h
  obtain ⟨⟨t, ht⟩, h2, h3, h4, h5, h6, h7, h8⟩ := h
  obtain ⟨⟨u, hu⟩, k2, k3, k4, k5, k6, k7, k8⟩ := k
  refine ⟨⟨t ++ u, by rw [hu, ht, List.append_assoc]⟩, fun c hc => (k2 c hc).trans (h2 c hc), fun c hc => (k3 c (by omega)).trans (h3 c hc), fun c hc q1 q2 => (k4 c (by omega) q1 (by omega)).trans (h4 c hc q1 q2), by omega, by omega, by omega, by omega⟩
theorem frD_O {b R : Nat} {S S' : ST} (h : frO b S S') : frD b R S b R S' := by
  refine ⟨⟨[], by rw [h.1, List.append_nil]⟩, fun c _ => by rw [h.2.1], fun c _ => by rw [h.2.2.1], fun c _ q1 q2 => h.2.2.2 c (by omega) (by omega) (by omega) (by omega) (by omega) (by omega), Or.inl rfl, Nat.le_refl _, ?_, ?_⟩
  · unfold tz
    rw [h.1]
  · rw [h.1]
    exact Nat.le_refl _
theorem frD_wI {b R a i : Nat} {S : ST} {z : Int} (h : (52 ≤ a ∧ a ≤ 57) ∨ (b ≤ a ∧ a ≤ b + 5)) : frD b R S b R (wI S a i z) := ⟨⟨[], (List.append_nil _).symm⟩, fun _ _ => rfl, fun _ _ => rfl, fun c _ q1 q2 => u2_ne (by omega), Or.inl rfl, Nat.le_refl _, rfl, Nat.le_refl _⟩
theorem frD_kd {b R b' R' : Nat} {S S' : ST} (h : frD b R S b' R' S') {c : Nat} (hc : c < 203 + S.1.length) : kd S' c = kd S c := by
  obtain ⟨t, ht⟩ := h.1
  unfold kd
  rw [ht, ← List.append_assoc, List.getElem?_append_left (by rw [List.length_append]; exact hc)]
theorem frD_vC {b R b' R' n : Nat} {sz : Nat → Nat} {S S' : ST} (h : frD b R S b' R' S') (hb : b = 58 ∨ 203 ≤ b) (hv : vC S n sz) : vC S' n sz := by
  obtain ⟨h1, h2, h3, h4, h5⟩ := hv
  have hq := h.2.2.2.1
  refine ⟨h1, ?_, ?_, ?_, ?_⟩
  · rw [hq 1 (by omega) (by omega) (by omega)]
    exact h2
  · rw [hq 1 (by omega) (by omega) (by omega)]
    exact h3
  · rw [hq 2 (by omega) (by omega) (by omega)]
    exact h4
  · rw [hq 3 (by omega) (by omega) (by omega)]
    exact h5
theorem frD_row {b R b' R' a o : Nat} {f : Nat → Bool} {S S' : ST} (h : frD b R S b' R' S') (ha : a < 203 + S.1.length) (hr : rowS S a o f) : rowS S' a o f := fun k hk => by
  rw [h.2.2.1 a ha]
  exact hr k hk
theorem cnt_split {D : DT} {out U : Nat} (h1 : ∀ x, dl D x = true → 2 ≤ x ∧ x < U ∧ x ≠ out) (h2 : out = 0 ∨ (2 ≤ out ∧ out < U)) : cntB (fun i => !(dl D i) && !decide (i = out ∧ out ≠ 0)) U + (cntB (dl D) U + o1 out) = U := by
  have key : ∀ N, N ≤ U → cntB (fun i => !(dl D i) && !decide (i = out ∧ out ≠ 0)) N + (cntB (dl D) N + (if out < N then o1 out else 0)) = N := by
    intro N
    induction N with
    | zero => intro _; rfl
    | succ N ih =>
      intro hN
      have ih := ih (by omega)
      show (cntB _ N + if (!(dl D N) && !decide (N = out ∧ out ≠ 0)) then 1 else 0) + ((cntB (dl D) N + if dl D N then 1 else 0) + (if out < N + 1 then o1 out else 0)) = N + 1
      by_cases c : N = out
      · have hd : dl D N = false := by
          cases e : dl D N with
          | false => rfl
          | true => exact absurd c (h1 N e).2.2
        rw [if_neg (show ¬ out < N by omega)] at ih
        rw [hd, if_pos (show out < N + 1 by omega)]
        by_cases c0 : out = 0
        · rw [decide_eq_false (fun z => z.2 c0), show o1 out = 0 from if_pos c0]
          simp only [Bool.not_false, Bool.and_true, if_true, Bool.false_eq_true, if_false]
          omega
        · rw [decide_eq_true ⟨c, c0⟩, show o1 out = 1 from if_neg c0]
          simp only [Bool.not_false, Bool.not_true, Bool.and_false, Bool.false_eq_true, if_false]
          omega
      · rw [decide_eq_false (fun z => c z.1)]
        have e2 : (if out < N + 1 then o1 out else 0) = (if out < N then o1 out else 0) := by
          by_cases c3 : out < N
          · rw [if_pos c3, if_pos (by omega)]
          · rw [if_neg c3, if_neg (by omega)]
        rw [e2]
        cases dl D N with
        | false =>
          simp only [Bool.not_false, Bool.and_true, if_true, Bool.false_eq_true, if_false]
          omega
        | true =>
          simp only [Bool.not_false, Bool.not_true, Bool.false_and, Bool.false_eq_true, if_true, if_false]
          omega
  have h := key U (Nat.le_refl _)
  by_cases c : out < U
  · rw [if_pos c] at h
    exact h
  · rw [if_neg c] at h
    have : out = 0 := by omega
    rw [show o1 out = 0 from if_pos this]
    exact h
theorem cnt_two {p : Nat → Bool} {U : Nat} (hU : 2 ≤ U) (h0 : p 0 = true) (h1 : p 1 = true) : 2 ≤ cntB p U := by
  obtain ⟨k, rfl⟩ : ∃ k, U = 2 + k := ⟨U - 2, by omega⟩
  rw [cntB_add]
  have : cntB p 2 = 2 := by
    show (0 + if p 0 then 1 else 0) + (if p 1 then 1 else 0) = 2
    rw [h0, h1]
    rfl
  omega
section DF
variable {X : List Int32} {S : ST} {b R n U out : Nat} {sz : Nat → Nat} {D : DT} {ex : Nat → Nat} {v o : Nat} {w : Nat → Nat} {g : Nat → Bool}
theorem dA_len (hA : dA S b R) : b + 5 < 203 + S.1.length := kd_len hA.2.2.2.2.2.2.2.2.2.2.2.2.2.2
theorem dG_mr (hG : dG S b R n sz D ex out U) (hR : R * 2 ≤ 131072) (hw : wf n sz) : dG (mrS S b R) (203 + S.1.length) (R * 2) n sz D ex out U := by
  obtain ⟨hA, hP, hM, ⟨ch, hC⟩, ⟨fr, hF⟩, hL, hU, hUR, hU2, hz⟩ := hG
  have hb := dA_len hA
  have h64 := hA.2.1
  have lt2 : ∀ x, dl D x = true → x < R := fun x hx => by
    have := (hP.1 x hx).2.1
    omega
  have r2 : ∀ x, x < R → SI (mrS S b R) (203 + S.1.length + 2) x = SI S (b + 2) x := fun x hx => by rw [mrS_n2 hb, if_pos hx]
  refine ⟨⟨Or.inr (by omega), by omega, hR, mrS_r0, mrS_r1, mrS_r2, mrS_r3, mrS_r4, mrS_r5, mrS_k0, mrS_k1, mrS_k2, mrS_k3, mrS_k4, ?_⟩, hP, ⟨fun x hx => ?_, ?_, ?_, fun x hx k hk => ?_, fun x h2 hx => ?_, hM.2.2.2.2.2⟩, ⟨ch, fun c hc => ⟨lk_cg (hC.1 c hc).1 ?_ (fun i hi => ?_), (hC.1 c hc).2⟩, fun c h1 h2 => ?_⟩, ⟨fr, lk_cg hF.1 ?_ (fun i hi => ?_), hF.2⟩, ?_, ?_, by omega, hU2, fun x hx => ?_⟩
  · rw [show 6 * (R * 2) = R * 2 * 6 from by omega]
    exact mrS_k5
  · rw [mrS_n0 hb, if_pos (lt2 x hx)]
    exact hM.1 x hx
  · rw [mrS_n0 hb, if_pos (by omega)]
    exact hM.2.1
  · rw [mrS_n0 hb, if_pos (by omega)]
    exact hM.2.2.1
  · have h1 := lt2 x hx
    have h2 := (hw.2.1 _ (hP.2.2.1 x hx).1)
    rw [mrS_n5 hb, if_pos (by omega)]
    exact hM.2.2.2.1 x hx k hk
  · have h1 := dok_lt hP hU2 hx
    rw [mrS_n1 hb, if_pos (by omega)]
    exact hM.2.2.2.2.1 x h2 hx
  · rw [mrS_o (by omega)]
  · exact r2 _ (lt2 _ (((hC.1 c hc).2 _).mp ⟨i, hi, rfl⟩).1)
  · rw [mrS_o (by omega)]
    exact hC.2 c h1 h2
  · rw [mrS_o (by omega)]
  · exact r2 _ (by have := ((hF.2 _).mp ⟨i, hi, rfl⟩).2.1; omega)
  · rw [mrS_o (by omega)]
    exact hL
  · rw [mrS_o (by omega)]
    exact hU
  · rw [mrS_n3 hb]
    by_cases c : x < R
    · rw [if_pos c]
      exact hz x c
    · rw [if_neg c]
theorem frD_mr (hA : dA S b R) : frD b R S (203 + S.1.length) (R * 2) (mrS S b R) := by
  have hR := hA.2.1
  refine ⟨⟨_, mrS_1⟩, fun c hc => funext fun g => mrS_R hc, fun c hc => mrS_L hc, fun c hc _ _ => mrS_o hc, Or.inr (Nat.le_refl _), by omega, ?_, ?_⟩
  · unfold tz
    rw [mrS_1, List.map_append, List.sum_append]
    simp only [List.map_cons, List.map_nil, List.sum_cons, List.sum_nil, ksz]
    omega
  · rw [mrS_l]
    omega
theorem c_makeRoom (hw : wf n sz) (hG : dG S b R n sz D ex out U) (hL2 : cntB (dl D) U + o1 out ≤ 65528) : sM X 2 32 [.ref 52] S (fun r S' => r = none ∧ ∃ b' R', dG S' b' R' n sz D ex out U ∧ cntB (dl D) U + o1 out + 8 ≤ R' ∧ frD b R S b' R' S' ∧ (∀ x, x < R → SI S' (b' + 4) x = SI S (b + 4) x) ∧ (∀ c, 52 ≤ c → c ≤ 57 → SI S' c = SI S c)) := by
  have hA := hG.1
  have hL := hG.2.2.2.2.2.1
  by_cases c : cntB (dl D) U + o1 out + 8 ≤ R
  · exact sM_of (c_makeRoom_n hA hL c) ⟨rfl, b, R, hG, c, frD_refl _ _ _, fun _ _ => rfl, fun _ _ _ => rfl⟩
  · have h1 := hA.2.1
    have hb := dA_len hA
    have hUR := hG.2.2.2.2.2.2.2.1
    have hcU := cntB_le (dl D) U
    refine sM_of (c_makeRoom_g hA hL (by omega) hL2) ⟨rfl, 203 + S.1.length, R * 2, dG_mr hG (by omega) hw, ?_, frD_mr hA, fun x hx => ?_, fun c _ _ => mrS_o (by omega)⟩
    · have : cntB (dl D) U + o1 out + 2 ≤ R := by
        obtain ⟨_, hP, _, _, _, _, _, _, hU2, _⟩ := hG
        have h2 : cntB (fun i => !(dl D i) && !decide (i = out ∧ out ≠ 0)) U + (cntB (dl D) U + o1 out) = U := cnt_split hP.1 hP.2.1
        have h3 : 2 ≤ cntB (fun i => !(dl D i) && !decide (i = out ∧ out ≠ 0)) U := cnt_two hU2 (by
          rw [show dl D 0 = false from by
            cases e : dl D 0 with
            | false => rfl
            | true => exact absurd (hP.1 0 e).1 (by omega)]
          rw [decide_eq_false (by omega)]
          rfl) (by
          rw [show dl D 1 = false from by
            cases e : dl D 1 with
            | false => rfl
            | true => exact absurd (hP.1 1 e).1 (by omega)]
          rw [decide_eq_false (by have := hP.2.1; omega)]
          rfl)
        omega
      omega
    · rw [mrS_n4 hb, if_pos hx]
end DF
