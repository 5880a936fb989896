/-! ===== the diagram: nodes found and made ===== -/
theorem kd_cg {S S' : ST} (h : S'.1 = S.1) (c : Nat) : kd S' c = kd S c := by
  unfold kd
  rw [h]
theorem dA_cg {S S' : ST} {b R : Nat} (h1 : S'.1 = S.1) (h2 : SR S' = SR S) (h : dA S b R) : dA S' b R := by
  unfold dA at *
  simp only [h2, kd_cg h1]
  exact h
def frO (b : Nat) (S S' : ST) : Prop := S'.1 = S.1 ∧ SR S' = SR S ∧ SL S' = SL S ∧ (∀ c, c ≠ 52 → c ≠ 55 → c ≠ b → c ≠ b + 1 → c ≠ b + 2 → c ≠ b + 5 → SI S' c = SI S c)
theorem frO_refl (b : Nat) (S : ST) : frO b S S := ⟨rfl, rfl, rfl, fun _ _ _ _ _ _ _ => rfl⟩
theorem frO_trans {b : Nat} {A B C : ST} (h : frO b A B) (k : frO b B C) : frO b A C := ⟨k.1.trans h.1, k.2.1.trans h.2.1, k.2.2.1.trans h.2.2.1, fun c h1 h2 h3 h4 h5 h6 => (k.2.2.2 c h1 h2 h3 h4 h5 h6).trans (h.2.2.2 c h1 h2 h3 h4 h5 h6)⟩
theorem frO_wI {b : Nat} {S : ST} {a i : Nat} {z : Int} (h : a = 52 ∨ a = 55 ∨ a = b ∨ a = b + 1 ∨ a = b + 2 ∨ a = b + 5) : frO b S (wI S a i z) := ⟨rfl, rfl, rfl, fun c h1 h2 h3 h4 h5 h6 => u2_ne (by omega)⟩
theorem o1_le (out : Nat) : o1 out ≤ 1 := by
  unfold o1
  split <;> omega
theorem fill {p : Nat → Bool} {out : Nat} : ∀ {N : Nat}, (∀ x, 2 ≤ x → x < N → p x = true ∨ (x = out ∧ out ≠ 0)) → N ≤ cntB p N + (if out < N then o1 out else 0) + 2
  | 0, _ => by omega
  | N + 1, h => by
    have ih := fill (p := p) (out := out) (N := N) (fun x h1 h2 => h x h1 (by omega))
    show N + 1 ≤ (cntB p N + if p N then 1 else 0) + (if out < N + 1 then o1 out else 0) + 2
    by_cases c2 : N < 2
    · omega
    · rcases h N (by omega) (by omega) with hp | ⟨h1, h2⟩
      · rw [hp, if_pos rfl]
        by_cases c : out < N
        · rw [if_pos c] at ih
          rw [if_pos (show out < N + 1 by omega)]
          omega
        · rw [if_neg c] at ih
          omega
      · rw [if_neg (by omega)] at ih
        rw [if_pos (show out < N + 1 by omega), show o1 out = 1 from if_neg h2]
        omega
theorem cof_ext {n : Nat} {sz : Nat → Nat} (hw : wf n sz) {v : Nat} (hv : v < n) {g h : Nat → Bool} (tg : tbT (pr sz n) g) (th : tbT (pr sz n) h) (e : ∀ k, k < sz v → cof n sz g v k = cof n sz h v k) : g = h := tb_ext tg th (fun r hr => by
  have h1 := congrFun (e (val sz r v) (hw.val hv r)) r
  rw [cof_at hr, cof_at hr, chg_val] at h1
  exact h1)
def nS (S : ST) (fr : CQ) (U : Nat) : ST := if fr.1 = 0 then wI S 52 13 ((U + 1 : Nat) : Int) else wI S 52 14 ((fr.2 1 : Nat) : Int)
def nY (fr : CQ) (U : Nat) : Nat := if fr.1 = 0 then U else fr.2 0
def nU (fr : CQ) (U : Nat) : Nat := if fr.1 = 0 then U + 1 else U
def nN (S : ST) (b : Nat) (fr : CQ) (U : Nat) (w : Nat → Nat) (s L : Nat) : ST := wI (wI (nK (nS S fr U) b (nY fr U) w s) (b + 1) (nY fr U) 0) 52 12 ((L + 1 : Nat) : Int)
def lkS (S : ST) (b y v c : Nat) (h : Int) : ST := wI (wI (wI S b y ((v : Nat) : Int)) (b + 2) y h) 55 c ((y : Nat) : Int)
def xtD (D : DT) (out : Nat) (D' : DT) : Prop := (∀ x, dl D x = true → dl D' x = true ∧ dv D' x = dv D x ∧ dk D' x = dk D x) ∧ (∀ x, dok D out x → ds D' x = ds D x)
theorem xtD_refl (D : DT) (out : Nat) : xtD D out D := ⟨fun _ h => ⟨h, rfl, rfl⟩, fun _ _ => rfl⟩
theorem xtD_ok {D D' : DT} {out x : Nat} (h : xtD D out D') (hx : dok D out x) : dok D' out x := by
  rcases hx with h1 | h1 | h1
  · exact Or.inl h1
  · exact Or.inr (Or.inl (h.1 x h1).1)
  · exact Or.inr (Or.inr h1)
theorem xtD_trans {A B C : DT} {out : Nat} (h : xtD A out B) (k : xtD B out C) : xtD A out C := ⟨fun x hx => by
  have h1 := h.1 x hx
  have h2 := k.1 x h1.1
  exact ⟨h2.1, h2.2.1.trans h1.2.1, h2.2.2.trans h1.2.2⟩, fun x hx => (k.2 x (xtD_ok h hx)).trans (h.2 x hx)⟩
section DN
variable {X : List Int32} {S : ST} {b R n U out : Nat} {sz : Nat → Nat} {D : DT} {ex : Nat → Nat} {ch : Nat → CQ} {fr : CQ} {v s o L c y : Nat} {w : Nat → Nat} {g : Nat → Bool}
theorem nS_ne (h : c ≠ 52) (j : Nat) : SI (nS S fr U) c j = SI S c j := by
  unfold nS
  by_cases c0 : fr.1 = 0
  · rw [if_pos c0, rI_ne h]
  · rw [if_neg c0, rI_ne h]
theorem nN_ne (h52 : c ≠ 52) (h1 : c ≠ b + 1) (h5 : c ≠ b + 5) (j : Nat) : SI (nN S b fr U w s L) c j = SI S c j := by
  unfold nN
  rw [rI_ne h52, rI_ne h1, nK_ne h1 h5, nS_ne h52]
theorem nN_1 (hb : b + 1 ≠ 52) (x : Nat) : SI (nN S b fr U w s L) (b + 1) x = if x = nY fr U then 0 else SI S (b + 1) x + ((cntB (fun k => decide (w k = x)) s : Nat) : Int) := by
  unfold nN
  rw [rI_ne hb]
  by_cases c0 : x = nY fr U
  · rw [if_pos c0, c0, rI_at]
  · rw [if_neg c0, rI_nj c0, nK_1, nS_ne hb]
theorem nN_5 (hb : b + 5 ≠ 52) (j : Nat) : SI (nN S b fr U w s L) (b + 5) j = if nY fr U * 6 ≤ j ∧ j < nY fr U * 6 + s then ((w (j - nY fr U * 6) : Nat) : Int) else SI S (b + 5) j := by
  unfold nN
  rw [rI_ne hb, rI_ne (by omega), nK_5, nS_ne hb]
theorem c_newNode (hA : dA S b R) (hF : dF S b D out U fr) (hU : SI S 52 13 = (U : Nat)) (hU2 : 2 ≤ U) (hUR : U ≤ R) (hroom : fr.1 = 0 → U < R) (hs : s ≤ 6) (ho : o + s ≤ 60) (hw : ∀ i, i < s → SI S 56 (o + i) = ((w i : Nat) : Int)) (hwb : ∀ i, i < s → w i < R) (hL : SI S 52 12 = (L : Nat)) : sM X 0 36 [.ref 52, .int (iI (o : Nat)), .int (iI (s : Nat))] S (sV (some (.int (iI ((nY fr U : Nat) : Int)))) (nN S b fr U w s L)) := by
  unfold nN nS nY
  by_cases c0 : fr.1 = 0
  · simp only [if_pos c0]
    have h0 : SI S 52 14 = 0 := by
      have h1 := hF.1.2.2.1
      rw [c0] at h1
      rw [hF.1.1, h1]
      rfl
    exact c_newNode_u hA (hroom c0) hs ho hw hwb hL h0 hU2 hU
  · simp only [if_neg c0]
    have hm := (hF.2 (fr.2 0)).mp ⟨0, by omega, rfl⟩
    exact c_newNode_f hA (by omega) hs ho hw hwb hL hF.1.1 hm.1 (hF.1.2.1 0 (by omega))
theorem nY_ok (hP : dP n sz D out U) (hF : dF S b D out U fr) (hU2 : 2 ≤ U) (hUR : U ≤ R) (hroom : fr.1 = 0 → U < R) : 2 ≤ nY fr U ∧ nY fr U < nU fr U ∧ dl D (nY fr U) = false ∧ nY fr U ≠ out ∧ nU fr U ≤ R ∧ U ≤ nU fr U := by
  unfold nY nU
  by_cases c0 : fr.1 = 0
  · simp only [if_pos c0]
    have := hroom c0
    refine ⟨hU2, by omega, ?_, ?_, by omega, by omega⟩
    · cases h : dl D U with
      | false => rfl
      | true => exact absurd (hP.1 U h).2.1 (by omega)
    · rcases hP.2.1 with h | h <;> omega
  · simp only [if_neg c0]
    have hm := (hF.2 (fr.2 0)).mp ⟨0, by omega, rfl⟩
    exact ⟨hm.1, hm.2.1, hm.2.2.1, hm.2.2.2, hUR, Nat.le_refl _⟩
theorem dG_new (hA : dA S b R) (hP : dP n sz D out U) (hM : dM S b sz D ex out U) (hC : dC S b n sz D ch) (hF : dF S b D out U fr) (hU : SI S 52 13 = (U : Nat)) (hUR : U ≤ R) (hU2 : 2 ≤ U) (hz : ∀ x, x < R → SI S (b + 3) x = 0) (hroom : fr.1 = 0 → U < R) (hwf : wf n sz) (hv : v < n) (ht : tbT (pr sz n) g) (hdp : dpT n sz g v = true) (hw : ∀ k, k < sz v → dok D out (w k) ∧ ds D (w k) = cof n sz g v k) (hi : ∀ x, dok D out x → ds D x ≠ g) (hc : c = v * 64 + hcI (hsI (fun k => ((w k : Nat) : Int)) (sz v))) : dG (lkS (nN S b fr U w (sz v) (cntB (dl D) U + o1 out)) b (nY fr U) v c (SI S 55 c)) b R n sz (setD D (nY fr U) v w g) ex out (nU fr U) := by
  have hb58 := hA.1
  have hsv := hwf.2.1 v hv
  obtain ⟨y1, y2, y3, y4, y5, y6⟩ := nY_ok hP hF hU2 hUR hroom
  generalize hy : nY fr U = y at *
  have hnok : ¬ dok D out y := by
    rintro (h | h | h)
    · omega
    · rw [y3] at h
      exact absurd h (by decide)
    · exact y4 h
  have hdlU : fr.1 = 0 → dl D U = false := fun c0 => by
    have : y = U := by rw [← hy]; exact if_pos c0
    rw [← this]
    exact y3
  have hE : ∀ z, edg sz (setD D y v w g) (nU fr U) z = edg sz D U z + cntB (fun k => decide (w k = z)) (sz v) := fun z => by
    rw [edg_set y2 y3]
    unfold nU
    by_cases c0 : fr.1 = 0
    · rw [if_pos c0, edg_up (hdlU c0)]
    · rw [if_neg c0]
  have hcnt : cntB (dl (setD D y v w g)) (nU fr U) = cntB (dl D) U + 1 := by
    rw [cnt_set y2 y3]
    unfold nU
    by_cases c0 : fr.1 = 0
    · rw [if_pos c0]
      show cntB (dl D) U + (if dl D U then 1 else 0) + 1 = _
      rw [hdlU c0]
      rfl
    · rw [if_neg c0]
  have hkn : ∀ x k, dl D x = true → k < sz (dv D x) → dk D x k ≠ y := fun x k hx hk e => hnok (by rw [← e]; exact (hP.2.2.2.1 x hx k hk).1)
  have hE0 : edg sz (setD D y v w g) (nU fr U) y + ex y = 0 := by
    rw [hE]
    have h1 : edg sz D U y = 0 := Classical.byContradiction fun h => by
      obtain ⟨x, k, _, h2, h3, h4⟩ := edg_ex (sz := sz) (D := D) (U := U) (z := y) (by omega)
      exact hkn x k h2 h3 h4
    have h2 : cntB (fun k => decide (w k = y)) (sz v) = 0 := cntB_z.mpr (fun k hk => decide_eq_false (fun e => hnok (by rw [← e]; exact (hw k hk).1)))
    have h3 : ex y = 0 := Classical.byContradiction fun h => hnok (hM.2.2.2.2.2 y (by omega))
    omega
  have r_b : ∀ x, SI (lkS (nN S b fr U w (sz v) (cntB (dl D) U + o1 out)) b y v c (SI S 55 c)) b x = if x = y then ((v : Nat) : Int) else SI S b x := fun x => by
    unfold lkS
    rw [rI_ne (by omega), rI_ne (by omega)]
    by_cases cx : x = y
    · rw [if_pos cx, cx, rI_at]
    · rw [if_neg cx, rI_nj cx, nN_ne (by omega) (by omega) (by omega)]
  have r_1 : ∀ x, SI (lkS (nN S b fr U w (sz v) (cntB (dl D) U + o1 out)) b y v c (SI S 55 c)) (b + 1) x = if x = y then 0 else SI S (b + 1) x + ((cntB (fun k => decide (w k = x)) (sz v) : Nat) : Int) := fun x => by
    unfold lkS
    rw [rI_ne (by omega), rI_ne (by omega), rI_ne (by omega), nN_1 (by omega), hy]
  have r_2 : ∀ x, SI (lkS (nN S b fr U w (sz v) (cntB (dl D) U + o1 out)) b y v c (SI S 55 c)) (b + 2) x = if x = y then SI S 55 c else SI S (b + 2) x := fun x => by
    unfold lkS
    rw [rI_ne (by omega)]
    by_cases cx : x = y
    · rw [if_pos cx, cx, rI_at]
    · rw [if_neg cx, rI_nj cx, rI_ne (by omega), nN_ne (by omega) (by omega) (by omega)]
  have r_5 : ∀ j, SI (lkS (nN S b fr U w (sz v) (cntB (dl D) U + o1 out)) b y v c (SI S 55 c)) (b + 5) j = if y * 6 ≤ j ∧ j < y * 6 + sz v then ((w (j - y * 6) : Nat) : Int) else SI S (b + 5) j := fun j => by
    unfold lkS
    rw [rI_ne (by omega), rI_ne (by omega), rI_ne (by omega), nN_5 (by omega), hy]
  have r_55 : ∀ e, SI (lkS (nN S b fr U w (sz v) (cntB (dl D) U + o1 out)) b y v c (SI S 55 c)) 55 e = if e = c then ((y : Nat) : Int) else SI S 55 e := fun e => by
    unfold lkS
    by_cases ce : e = c
    · rw [if_pos ce, ce, rI_at]
    · rw [if_neg ce, rI_nj ce, rI_ne (by omega), rI_ne (by omega), nN_ne (by omega) (by omega) (by omega)]
  have r_52 : ∀ f, f ≠ 12 → SI (lkS (nN S b fr U w (sz v) (cntB (dl D) U + o1 out)) b y v c (SI S 55 c)) 52 f = SI (nS S fr U) 52 f := fun f hf => by
    unfold lkS nN
    rw [rI_ne (by omega), rI_ne (by omega), rI_ne (by omega), rI_nj hf, rI_ne (by omega), nK_ne (by omega) (by omega)]
  refine ⟨dA_cg ?_ ?_ hA, ?_, ?_, ⟨_, dC_set hC y3 hv hwf.1 hc r_2 r_55⟩, ?_, ?_, ?_, y5, by omega, fun x hx => ?_⟩
  · unfold lkS nN nK nS
    by_cases c0 : fr.1 = 0
    · rw [if_pos c0]
      rfl
    · rw [if_neg c0]
      rfl
  · unfold lkS nN nK nS
    by_cases c0 : fr.1 = 0
    · rw [if_pos c0]
      rfl
    · rw [if_neg c0]
      rfl
  · refine dP_set hP y6 ⟨y1, y2⟩ y3 (fun x => ?_) ?_ (fun x hx => (hP.1 x hx).2.2) y4 (fun h => absurd h hnok) hv ht hdp hw (fun x hx e => absurd e (hi x hx))
    · constructor
      · rintro (h | h | h)
        · exact Or.inl (Or.inl h)
        · rcases setD_i.mp h with h | h
          · exact Or.inl (Or.inr (Or.inl h))
          · exact Or.inr h
        · exact Or.inl (Or.inr (Or.inr h))
      · rintro ((h | h | h) | h)
        · exact Or.inl h
        · exact Or.inr (Or.inl (setD_i.mpr (Or.inl h)))
        · exact Or.inr (Or.inr h)
        · exact Or.inr (Or.inl (setD_i.mpr (Or.inr h)))
    · rcases hP.2.1 with h | h
      · exact Or.inl h
      · exact Or.inr ⟨h.1, by omega⟩
  · refine ⟨fun x hx => ?_, ?_, ?_, fun x hx k hk => ?_, fun x h2 hx => ?_, fun x hx => ?_⟩
    · rw [r_b]
      by_cases cx : x = y
      · rw [if_pos cx, cx, setD_vy]
      · rw [if_neg cx, setD_vn cx]
        exact hM.1 x ((setD_ln cx).symm.trans hx)
    · rw [r_b, if_neg (by omega)]
      exact hM.2.1
    · rw [r_b, if_neg (by omega)]
      exact hM.2.2.1
    · rw [r_5]
      by_cases cx : x = y
      · subst cx
        rw [setD_vy] at hk
        rw [if_pos (by omega), setD_ky, show x * 6 + k - x * 6 = k from by omega]
      · rw [setD_vn cx] at hk
        rw [setD_ln cx] at hx
        have := (hwf.2.1 _ (hP.2.2.1 x hx).1)
        rw [if_neg (by omega), setD_kn cx]
        exact hM.2.2.2.1 x hx k hk
    · rw [r_1]
      by_cases cx : x = y
      · rw [if_pos cx, cx, hE0]
        rfl
      · rw [if_neg cx, hE]
        have hx' : dok D out x := by
          rcases hx with h | h | h
          · exact Or.inl h
          · exact Or.inr (Or.inl ((setD_ln cx).symm.trans h))
          · exact Or.inr (Or.inr h)
        rw [hM.2.2.2.2.1 x h2 hx']
        omega
    · rcases hM.2.2.2.2.2 x hx with h | h | h
      · exact Or.inl h
      · exact Or.inr (Or.inl (setD_i.mpr (Or.inl h)))
      · exact Or.inr (Or.inr h)
  · by_cases c0 : fr.1 = 0
    · refine ⟨fr, lk_cg hF.1 ?_ (fun i hi => absurd hi (by omega)), fun x => ?_⟩
      · rw [r_52 14 (by decide)]
        unfold nS
        rw [if_pos c0, rI_nj (by decide)]
      · rw [show nU fr U = U + 1 from if_pos c0, setD_l]
        constructor
        · rintro ⟨i, hi, _⟩
          omega
        · rintro ⟨k1, k2, k3, k4⟩
          have hyU : y = U := by rw [← hy]; exact if_pos c0
          have cx : x ≠ y := fun z => by rw [if_pos z] at k3; exact absurd k3 (by decide)
          rw [if_neg cx] at k3
          exact (hF.2 x).mpr ⟨k1, by omega, k3, k4⟩
    · have hy0 : fr.2 0 = y := by rw [← hy]; exact (if_neg c0).symm
      refine ⟨delQ fr 0, lk_del hF.1 (by omega) ?_ (fun i hi hi0 => ?_), fun x => ?_⟩
      · rw [r_52 14 (by decide), if_pos rfl]
        unfold nS
        rw [if_neg c0, rI_at]
      · rw [r_2, if_neg (fun z => hi0 (hF.1.2.2.2 i 0 hi (by omega) (z.trans hy0.symm))), if_neg (by omega)]
        exact hF.1.2.1 i hi
      · rw [cmem_del (by omega) hF.1.2.2.2, hF.2 x, hy0, show nU fr U = U from if_neg c0, setD_l]
        constructor
        · rintro ⟨⟨k1, k2, k3, k4⟩, k5⟩
          rw [if_neg k5]
          exact ⟨k1, k2, k3, k4⟩
        · rintro ⟨k1, k2, k3, k4⟩
          have cx : x ≠ y := fun z => by rw [if_pos z] at k3; exact absurd k3 (by decide)
          rw [if_neg cx] at k3
          exact ⟨⟨k1, k2, k3, k4⟩, cx⟩
  · rw [hcnt]
    unfold lkS nN
    rw [rI_ne (by omega), rI_ne (by omega), rI_ne (by omega), rI_at]
    omega
  · rw [r_52 13 (by decide)]
    unfold nS nU
    by_cases c0 : fr.1 = 0
    · rw [if_pos c0, if_pos c0, rI_at]
    · rw [if_neg c0, if_neg c0, rI_nj (by decide)]
      exact hU
  · unfold lkS
    rw [rI_ne (by omega), rI_ne (by omega), rI_ne (by omega), nN_ne (by omega) (by omega) (by omega)]
    exact hz x hx
theorem frO_new : frO b S (lkS (nN S b fr U w s L) b y v c (SI S 55 c)) := by
  refine frO_trans ?_ (frO_trans (frO_wI (Or.inr (Or.inr (Or.inl rfl)))) (frO_trans (frO_wI (Or.inr (Or.inr (Or.inr (Or.inr (Or.inl rfl)))))) (frO_wI (Or.inr (Or.inl rfl)))))
  refine frO_trans ?_ (frO_trans (frO_wI (Or.inr (Or.inr (Or.inr (Or.inl rfl))))) (frO_wI (Or.inl rfl)))
  refine ⟨?_, ?_, ?_, fun e h1 h2 h3 h4 h5 h6 => funext fun j => by rw [nK_ne h4 h6, nS_ne h1]⟩
  · unfold nK nS
    by_cases c0 : fr.1 = 0
    · rw [if_pos c0]
      rfl
    · rw [if_neg c0]
      rfl
  · unfold nK nS
    by_cases c0 : fr.1 = 0
    · rw [if_pos c0]
      rfl
    · rw [if_neg c0]
      rfl
  · unfold nK nS
    by_cases c0 : fr.1 = 0
    · rw [if_pos c0]
      rfl
    · rw [if_neg c0]
      rfl
def dfq (w : Nat → Nat) (k : Nat) : Bool := decide (w (k + 1) ≠ w 0)
theorem c_nodeOf_e (hvC : vC S n sz) (hA : dA S b R) (hv : v < n) (ho : o + sz v ≤ 60) (hw : ∀ k, k < sz v → SI S 56 (o + k) = ((w k : Nat) : Int)) (hwb : ∀ k, k < sz v → w k < R) (hal : ∀ k, k < sz v → w k = w 0) : sM X 1 33 [.ref 52, .int (iI (v : Nat)), .int (iI (o : Nat))] S (sV (some (.int (iI ((w 0 : Nat) : Int)))) S) := by
  have hb58 := hA.1
  have hR1 := hA.2.1
  have hR2 := hA.2.2.1
  have hwf := hvC.1
  have hn10 := hwf.1
  have hsv := hwf.2.1 v hv
  have hw0 : SI S 56 o = ((w 0 : Nat) : Int) := hw 0 (by omega)
  have hwb0 := hwb 0 (by omega)
  have hc0 : cntB (dfq w) (sz v - 1) = 0 := cntB_z.mpr (fun k hk => decide_eq_false (fun h => h (hal (k + 1) (by omega))))
  refine sIni (ls := [some (.ref 52), some (.int (iI ((v : Nat) : Int))), some (.int (iI ((o : Nat) : Int))), none, none, none, none, none]) rfl ?_
  refine sL (pc' := 1) (i := .aload_n 0) rfl rfl ?_
  refine sGc (p := 4) rfl rfl (sk_52 _) rfl rfl rfl ?_
  refine sL (pc' := 5) (i := .iload_n 1) rfl rfl ?_
  refine sCv (p := 8) (as := [_]) rfl rfl rfl rfl (by decide) (Nat.le_of_ble_eq_true rfl) rfl (Nat.le_of_ble_eq_true rfl) (sk_1 _) rfl (by omega) (c_siz hvC hv) ?_
  refine sL (pc' := 9) (i := .istore_n 3) (ls' := [some (.ref 52), some (.int (iI ((v : Nat) : Int))), some (.int (iI ((o : Nat) : Int))), some (.int (iI ((sz v : Nat) : Int))), none, none, none, none]) rfl rfl ?_
  refine sKi (p := 10) rfl rfl ?_
  refine sL (pc' := 12) (i := .istore 4) (ls' := [some (.ref 52), some (.int (iI ((v : Nat) : Int))), some (.int (iI ((o : Nat) : Int))), some (.int (iI ((sz v : Nat) : Int))), some (.int (iI 0)), none, none, none]) rfl rfl ?_
  refine sKi (p := 13) rfl rfl ?_
  refine sL (pc' := 15) (i := .istore 5) (ls' := [some (.ref 52), some (.int (iI ((v : Nat) : Int))), some (.int (iI ((o : Nat) : Int))), some (.int (iI ((sz v : Nat) : Int))), some (.int (iI 0)), some (.int (iI 1)), none, none]) rfl rfl ?_
  refine sIt (A := fun i => [some (.ref 52), some (.int (iI ((v : Nat) : Int))), some (.int (iI ((o : Nat) : Int))), some (.int (iI ((sz v : Nat) : Int))), some (.int (iI ((cntB (dfq w) i : Nat) : Int))), some (.int (iI (((i : Nat) : Int) + 1))), none, none]) (B := fun _ => S) (fun _ => True) (sz v - 1) True.intro (fun i hi15 hI15 ih15 => ?_) (fun hI15 => ?_)
  · have hi15 := hi15
    have hwi := hwb (i + 1) (by omega)
    have hci := cntB_le (dfq w) i
    refine sL (pc' := 17) (i := .iload 5) rfl rfl ?_
    refine sL (pc' := 18) (i := .iload_n 3) rfl rfl ?_
    refine sIc_ge (p := 21) rfl rfl ⟨by omega, by omega⟩ ⟨by omega, by omega⟩ (fun c1 => ?_) (fun c1 => ?_)
    · exfalso; omega
    · have c1 := c1
      refine sL (pc' := 22) (i := .aload_n 0) rfl rfl ?_
      refine sGc (p := 25) rfl rfl (sk_52 _) rfl rfl rfl ?_
      refine sL (pc' := 26) (i := .iload_n 2) rfl rfl ?_
      refine sL (pc' := 28) (i := .iload 5) rfl rfl ?_
      refine sAd (p := 29) rfl rfl ?_
      refine sAi (p := 30) (i := o + (i + 1)) rfl rfl (sk_56 _) (by omega) ⟨by omega, by omega⟩ (hw (i + 1) (by omega)) ?_
      refine sL (pc' := 31) (i := .aload_n 0) rfl rfl ?_
      refine sGc (p := 34) rfl rfl (sk_52 _) rfl rfl rfl ?_
      refine sL (pc' := 35) (i := .iload_n 2) rfl rfl ?_
      refine sAi (p := 36) (i := o) rfl rfl (sk_56 _) (by omega) ⟨by omega, by omega⟩ hw0 ?_
      refine sIc_eq (p := 39) rfl rfl ⟨by omega, by omega⟩ ⟨by omega, by omega⟩ (fun c2 => ?_) (fun c2 => ?_)
      · have c2 := c2
        refine sInX (z := (((i : Nat) : Int) + 1)) (ls' := [some (.ref 52), some (.int (iI ((v : Nat) : Int))), some (.int (iI ((o : Nat) : Int))), some (.int (iI ((sz v : Nat) : Int))), some (.int (iI ((cntB (dfq w) i : Nat) : Int))), some (.int (iI ((((i : Nat) : Int) + 1) + 1))), none, none]) (p := 45) rfl rfl (Nat.le_of_ble_eq_true rfl) rfl rfl ?_
        refine sL (i := .goto (-30)) rfl rfl ?_
        refine sRo (ls := [some (.ref 52), some (.int (iI ((v : Nat) : Int))), some (.int (iI ((o : Nat) : Int))), some (.int (iI ((sz v : Nat) : Int))), some (.int (iI ((cntB (dfq w) (i + 1) : Nat) : Int))), some (.int (iI (((i + 1 : Nat) : Int) + 1))), none, none]) (T := _) (And.intro rfl (And.intro rfl (And.intro rfl (And.intro rfl (And.intro (congrArg (fun z => some (Value.int z)) (congrArg iI (cntB_f (p := dfq w) (decide_eq_false (by omega))))) (And.intro (congrArg (fun z => some (Value.int z)) (congrArg iI (by omega))) (True.intro))))))) (rfl) (ih15 ?_)
        exact True.intro
      · have c2 := c2
        refine sInX (z := ((cntB (dfq w) i : Nat) : Int)) (ls' := [some (.ref 52), some (.int (iI ((v : Nat) : Int))), some (.int (iI ((o : Nat) : Int))), some (.int (iI ((sz v : Nat) : Int))), some (.int (iI (((cntB (dfq w) i : Nat) : Int) + 1))), some (.int (iI (((i : Nat) : Int) + 1))), none, none]) (p := 42) rfl rfl (Nat.le_of_ble_eq_true rfl) rfl rfl ?_
        refine sInX (z := (((i : Nat) : Int) + 1)) (ls' := [some (.ref 52), some (.int (iI ((v : Nat) : Int))), some (.int (iI ((o : Nat) : Int))), some (.int (iI ((sz v : Nat) : Int))), some (.int (iI (((cntB (dfq w) i : Nat) : Int) + 1))), some (.int (iI ((((i : Nat) : Int) + 1) + 1))), none, none]) (p := 45) rfl rfl (Nat.le_of_ble_eq_true rfl) rfl rfl ?_
        refine sL (i := .goto (-30)) rfl rfl ?_
        refine sRo (ls := [some (.ref 52), some (.int (iI ((v : Nat) : Int))), some (.int (iI ((o : Nat) : Int))), some (.int (iI ((sz v : Nat) : Int))), some (.int (iI ((cntB (dfq w) (i + 1) : Nat) : Int))), some (.int (iI (((i + 1 : Nat) : Int) + 1))), none, none]) (T := _) (And.intro rfl (And.intro rfl (And.intro rfl (And.intro rfl (And.intro (congrArg (fun z => some (Value.int z)) (congrArg iI (cntB_t (p := dfq w) (decide_eq_true (by omega))))) (And.intro (congrArg (fun z => some (Value.int z)) (congrArg iI (by omega))) (True.intro))))))) (rfl) (ih15 ?_)
        exact True.intro
  · have hI15 := hI15
    have hci := cntB_le (dfq w) (sz v - 1)
    refine sL (pc' := 17) (i := .iload 5) rfl rfl ?_
    refine sL (pc' := 18) (i := .iload_n 3) rfl rfl ?_
    refine sIc_ge (p := 21) rfl rfl ⟨by omega, by omega⟩ ⟨by omega, by omega⟩ (fun c3 => ?_) (fun c3 => ?_)
    · have c3 := c3
      refine sL (pc' := 50) (i := .iload 4) rfl rfl ?_
      refine sIf_ne (p := 53) rfl rfl ⟨by omega, by omega⟩ (fun c4 => ?_) (fun c4 => ?_)
      · exfalso; omega
      · have c4 := c4
        refine sL (pc' := 54) (i := .aload_n 0) rfl rfl ?_
        refine sGc (p := 57) rfl rfl (sk_52 _) rfl rfl rfl ?_
        refine sL (pc' := 58) (i := .iload_n 2) rfl rfl ?_
        refine sAi (p := 59) (i := o) rfl rfl (sk_56 _) (by omega) ⟨by omega, by omega⟩ hw0 ?_
        refine sEn (i := .ireturn) rfl (rfl) ?_
        exact ⟨rfl, rfl⟩
    · exfalso; omega
theorem c_nodeOf_f {x : Nat} (hvC : vC S n sz) (hA : dA S b R) (hv : v < n) (ho : o + sz v ≤ 60) (hw : ∀ k, k < sz v → SI S 56 (o + k) = ((w k : Nat) : Int)) (hwb : ∀ k, k < sz v → w k < R) (hC : dC S b n sz D ch) (hP : dP n sz D out U) (hUR : U ≤ R) (hM : dM S b sz D ex out U) (hal : ¬ ∀ k, k < sz v → w k = w 0) (hx : dl D x = true) (hxv : dv D x = v) (hxk : ∀ k, k < sz v → dk D x k = w k) : sM X 1 33 [.ref 52, .int (iI (v : Nat)), .int (iI (o : Nat))] S (sV (some (.int (iI ((x : Nat) : Int)))) S) := by
  have hb58 := hA.1
  have hR1 := hA.2.1
  have hR2 := hA.2.2.1
  have hwf := hvC.1
  have hn10 := hwf.1
  have hsv := hwf.2.1 v hv
  have hw0 : SI S 56 o = ((w 0 : Nat) : Int) := hw 0 (by omega)
  have hwb0 := hwb 0 (by omega)
  have hne0 : cntB (dfq w) (sz v - 1) ≠ 0 := fun h => hal (fun k hk => by
    cases k with
    | zero => rfl
    | succ k => exact Classical.byContradiction fun z => of_decide_eq_false (cntB_z.mp h k (by omega)) z)
  obtain ⟨c, hc⟩ : ∃ c, c = v * 64 + hcI (hsI (fun k => ((w k : Nat) : Int)) (sz v)) := ⟨_, rfl⟩
  have hcl := hc_lt (hsI (fun k => ((w k : Nat) : Int)) (sz v))
  have hcn : c < n * 64 := by omega
  have hq := (hC.1 c hcn).1
  have hq0 : SI S 55 (v * 64 + hcI (hsI (fun k => ((w k : Nat) : Int)) (sz v))) = (((ch c).2 0 : Nat) : Int) := by
    rw [← hc]
    exact hq.1
  have hqm : ∀ i, i < (ch c).1 → dl D ((ch c).2 i) = true ∧ dv D ((ch c).2 i) = v ∧ 2 ≤ (ch c).2 i ∧ (ch c).2 i < U := fun i hi => by
    have h1 := ((hC.1 c hcn).2 _).mp ⟨i, hi, rfl⟩
    have h2 := hP.1 _ h1.1
    have h3 := h1.2
    unfold dch at h3
    have h4 := hc_lt (hsI (fun k => ((dk D ((ch c).2 i) k : Nat) : Int)) (sz (dv D ((ch c).2 i))))
    exact ⟨h1.1, by omega, h2.1, h2.2.1⟩
  have hkb : ∀ x, dl D x = true → ∀ k, k < sz (dv D x) → dk D x k < R := fun x hx k hk => by
    rcases (hP.2.2.2.1 x hx k hk).1 with h | h | h
    · omega
    · have := (hP.1 _ h).2.1
      omega
    · rcases hP.2.1 with h2 | h2 <;> omega
  have hq1 : (ch c).1 ≤ R := pigeon (fun i => (ch c).2 i) (fun i hi => by have := hqm i hi; omega) (fun i j hi hj e => hq.2.2.2 i j hi hj e)
  have hdx : c = dch sz D x := by
    unfold dch
    rw [hxv, hc, hsI_c (f := fun k => ((dk D x k : Nat) : Int)) (g := fun k => ((w k : Nat) : Int)) (fun k hk => by rw [hxk k hk])]
  obtain ⟨j, hj, ej⟩ := ((hC.1 c hcn).2 x).mpr ⟨hx, hdx⟩
  have hnf : ∀ i, i < j → ¬ ∀ k, k < sz v → dk D ((ch c).2 i) k = w k := fun i hi h => by
    have h1 := hqm i (by omega)
    have e1 : (ch c).2 i = x := hP.2.2.2.2.2.2 _ _ (Or.inr (Or.inl h1.1)) (Or.inr (Or.inl hx)) (cof_ext hwf hv (hP.2.2.1 _ h1.1).2.1 (hP.2.2.1 _ hx).2.1 (fun k hk => by
      have k1 := (hP.2.2.2.1 _ h1.1 k (by rw [h1.2.1]; exact hk)).2
      have k2 := (hP.2.2.2.1 _ hx k (by rw [hxv]; exact hk)).2
      rw [h1.2.1] at k1
      rw [hxv] at k2
      rw [← k1, ← k2, h k hk, hxk k hk]))
    have := hq.2.2.2 i j (by omega) hj (e1.trans ej.symm)
    omega
  have hqj := hqm j hj
  have hyes : allB (fun k => decide (dk D ((ch c).2 j) k = w k)) (sz v) = true := allB_iff.mpr (fun k hk => decide_eq_true (by rw [ej]; exact hxk k hk))
  refine sIni (ls := [some (.ref 52), some (.int (iI ((v : Nat) : Int))), some (.int (iI ((o : Nat) : Int))), none, none, none, none, none]) rfl ?_
  refine sL (pc' := 1) (i := .aload_n 0) rfl rfl ?_
  refine sGc (p := 4) rfl rfl (sk_52 _) rfl rfl rfl ?_
  refine sL (pc' := 5) (i := .iload_n 1) rfl rfl ?_
  refine sCv (p := 8) (as := [_]) rfl rfl rfl rfl (by decide) (Nat.le_of_ble_eq_true rfl) rfl (Nat.le_of_ble_eq_true rfl) (sk_1 _) rfl (by omega) (c_siz hvC hv) ?_
  refine sL (pc' := 9) (i := .istore_n 3) (ls' := [some (.ref 52), some (.int (iI ((v : Nat) : Int))), some (.int (iI ((o : Nat) : Int))), some (.int (iI ((sz v : Nat) : Int))), none, none, none, none]) rfl rfl ?_
  refine sKi (p := 10) rfl rfl ?_
  refine sL (pc' := 12) (i := .istore 4) (ls' := [some (.ref 52), some (.int (iI ((v : Nat) : Int))), some (.int (iI ((o : Nat) : Int))), some (.int (iI ((sz v : Nat) : Int))), some (.int (iI 0)), none, none, none]) rfl rfl ?_
  refine sKi (p := 13) rfl rfl ?_
  refine sL (pc' := 15) (i := .istore 5) (ls' := [some (.ref 52), some (.int (iI ((v : Nat) : Int))), some (.int (iI ((o : Nat) : Int))), some (.int (iI ((sz v : Nat) : Int))), some (.int (iI 0)), some (.int (iI 1)), none, none]) rfl rfl ?_
  refine sIt (A := fun i => [some (.ref 52), some (.int (iI ((v : Nat) : Int))), some (.int (iI ((o : Nat) : Int))), some (.int (iI ((sz v : Nat) : Int))), some (.int (iI ((cntB (dfq w) i : Nat) : Int))), some (.int (iI (((i : Nat) : Int) + 1))), none, none]) (B := fun _ => S) (fun _ => True) (sz v - 1) True.intro (fun i hi15 hI15 ih15 => ?_) (fun hI15 => ?_)
  · have hi15 := hi15
    have hwi := hwb (i + 1) (by omega)
    have hci := cntB_le (dfq w) i
    refine sL (pc' := 17) (i := .iload 5) rfl rfl ?_
    refine sL (pc' := 18) (i := .iload_n 3) rfl rfl ?_
    refine sIc_ge (p := 21) rfl rfl ⟨by omega, by omega⟩ ⟨by omega, by omega⟩ (fun c1 => ?_) (fun c1 => ?_)
    · exfalso; omega
    · have c1 := c1
      refine sL (pc' := 22) (i := .aload_n 0) rfl rfl ?_
      refine sGc (p := 25) rfl rfl (sk_52 _) rfl rfl rfl ?_
      refine sL (pc' := 26) (i := .iload_n 2) rfl rfl ?_
      refine sL (pc' := 28) (i := .iload 5) rfl rfl ?_
      refine sAd (p := 29) rfl rfl ?_
      refine sAi (p := 30) (i := o + (i + 1)) rfl rfl (sk_56 _) (by omega) ⟨by omega, by omega⟩ (hw (i + 1) (by omega)) ?_
      refine sL (pc' := 31) (i := .aload_n 0) rfl rfl ?_
      refine sGc (p := 34) rfl rfl (sk_52 _) rfl rfl rfl ?_
      refine sL (pc' := 35) (i := .iload_n 2) rfl rfl ?_
      refine sAi (p := 36) (i := o) rfl rfl (sk_56 _) (by omega) ⟨by omega, by omega⟩ hw0 ?_
      refine sIc_eq (p := 39) rfl rfl ⟨by omega, by omega⟩ ⟨by omega, by omega⟩ (fun c2 => ?_) (fun c2 => ?_)
      · have c2 := c2
        refine sInX (z := (((i : Nat) : Int) + 1)) (ls' := [some (.ref 52), some (.int (iI ((v : Nat) : Int))), some (.int (iI ((o : Nat) : Int))), some (.int (iI ((sz v : Nat) : Int))), some (.int (iI ((cntB (dfq w) i : Nat) : Int))), some (.int (iI ((((i : Nat) : Int) + 1) + 1))), none, none]) (p := 45) rfl rfl (Nat.le_of_ble_eq_true rfl) rfl rfl ?_
        refine sL (i := .goto (-30)) rfl rfl ?_
        refine sRo (ls := [some (.ref 52), some (.int (iI ((v : Nat) : Int))), some (.int (iI ((o : Nat) : Int))), some (.int (iI ((sz v : Nat) : Int))), some (.int (iI ((cntB (dfq w) (i + 1) : Nat) : Int))), some (.int (iI (((i + 1 : Nat) : Int) + 1))), none, none]) (T := _) (And.intro rfl (And.intro rfl (And.intro rfl (And.intro rfl (And.intro (congrArg (fun z => some (Value.int z)) (congrArg iI (cntB_f (p := dfq w) (decide_eq_false (by omega))))) (And.intro (congrArg (fun z => some (Value.int z)) (congrArg iI (by omega))) (True.intro))))))) (rfl) (ih15 ?_)
        exact True.intro
      · have c2 := c2
        refine sInX (z := ((cntB (dfq w) i : Nat) : Int)) (ls' := [some (.ref 52), some (.int (iI ((v : Nat) : Int))), some (.int (iI ((o : Nat) : Int))), some (.int (iI ((sz v : Nat) : Int))), some (.int (iI (((cntB (dfq w) i : Nat) : Int) + 1))), some (.int (iI (((i : Nat) : Int) + 1))), none, none]) (p := 42) rfl rfl (Nat.le_of_ble_eq_true rfl) rfl rfl ?_
        refine sInX (z := (((i : Nat) : Int) + 1)) (ls' := [some (.ref 52), some (.int (iI ((v : Nat) : Int))), some (.int (iI ((o : Nat) : Int))), some (.int (iI ((sz v : Nat) : Int))), some (.int (iI (((cntB (dfq w) i : Nat) : Int) + 1))), some (.int (iI ((((i : Nat) : Int) + 1) + 1))), none, none]) (p := 45) rfl rfl (Nat.le_of_ble_eq_true rfl) rfl rfl ?_
        refine sL (i := .goto (-30)) rfl rfl ?_
        refine sRo (ls := [some (.ref 52), some (.int (iI ((v : Nat) : Int))), some (.int (iI ((o : Nat) : Int))), some (.int (iI ((sz v : Nat) : Int))), some (.int (iI ((cntB (dfq w) (i + 1) : Nat) : Int))), some (.int (iI (((i + 1 : Nat) : Int) + 1))), none, none]) (T := _) (And.intro rfl (And.intro rfl (And.intro rfl (And.intro rfl (And.intro (congrArg (fun z => some (Value.int z)) (congrArg iI (cntB_t (p := dfq w) (decide_eq_true (by omega))))) (And.intro (congrArg (fun z => some (Value.int z)) (congrArg iI (by omega))) (True.intro))))))) (rfl) (ih15 ?_)
        exact True.intro
  · have hI15 := hI15
    have hci := cntB_le (dfq w) (sz v - 1)
    refine sL (pc' := 17) (i := .iload 5) rfl rfl ?_
    refine sL (pc' := 18) (i := .iload_n 3) rfl rfl ?_
    refine sIc_ge (p := 21) rfl rfl ⟨by omega, by omega⟩ ⟨by omega, by omega⟩ (fun c3 => ?_) (fun c3 => ?_)
    · have c3 := c3
      refine sL (pc' := 50) (i := .iload 4) rfl rfl ?_
      refine sIf_ne (p := 53) rfl rfl ⟨by omega, by omega⟩ (fun c4 => ?_) (fun c4 => ?_)
      · have c4 := c4
        refine sL (pc' := 61) (i := .iload_n 1) rfl rfl ?_
        refine sL (pc' := 62) (i := .iload_n 3) rfl rfl ?_
        refine sL (pc' := 63) (i := .aload_n 0) rfl rfl ?_
        refine sGc (p := 66) rfl rfl (sk_52 _) rfl rfl rfl ?_
        refine sL (pc' := 67) (i := .iload_n 2) rfl rfl ?_
        refine sCs (p := 70) (as := [_, _, _, _]) rfl rfl rfl rfl (by decide) (Nat.le_of_ble_eq_true rfl) rfl (Nat.le_of_ble_eq_true rfl) rfl (by omega) (c_chainOf (N := 60) (f := fun k => ((w k : Nat) : Int)) (sk_56 _) ⟨by omega, by omega⟩ (by omega) hw) ?_
        refine sL (pc' := 72) (i := .istore 5) (ls' := [some (.ref 52), some (.int (iI ((v : Nat) : Int))), some (.int (iI ((o : Nat) : Int))), some (.int (iI ((sz v : Nat) : Int))), some (.int (iI ((cntB (dfq w) (sz v - 1) : Nat) : Int))), some (.int (iI ((v * 64 + hcI (hsI (fun k => ((w k : Nat) : Int)) (sz v)) : Nat) : Int))), none, none]) rfl rfl ?_
        refine sL (pc' := 73) (i := .aload_n 0) rfl rfl ?_
        refine sGc (p := 76) rfl rfl (sk_52 _) rfl rfl rfl ?_
        refine sL (pc' := 78) (i := .iload 5) rfl rfl ?_
        refine sAi (p := 79) (i := v * 64 + hcI (hsI (fun k => ((w k : Nat) : Int)) (sz v))) rfl rfl (sk_55 _) (by omega) ⟨by omega, by omega⟩ hq0 ?_
        refine sL (pc' := 81) (i := .istore 6) (ls' := [some (.ref 52), some (.int (iI ((v : Nat) : Int))), some (.int (iI ((o : Nat) : Int))), some (.int (iI ((sz v : Nat) : Int))), some (.int (iI ((cntB (dfq w) (sz v - 1) : Nat) : Int))), some (.int (iI ((v * 64 + hcI (hsI (fun k => ((w k : Nat) : Int)) (sz v)) : Nat) : Int))), some (.int (iI (((ch c).2 0 : Nat) : Int))), none]) rfl rfl ?_
        refine sKi (p := 82) rfl rfl ?_
        refine sL (pc' := 84) (i := .istore 7) (ls' := [some (.ref 52), some (.int (iI ((v : Nat) : Int))), some (.int (iI ((o : Nat) : Int))), some (.int (iI ((sz v : Nat) : Int))), some (.int (iI ((cntB (dfq w) (sz v - 1) : Nat) : Int))), some (.int (iI ((v * 64 + hcI (hsI (fun k => ((w k : Nat) : Int)) (sz v)) : Nat) : Int))), some (.int (iI (((ch c).2 0 : Nat) : Int))), some (.int (iI 0))]) rfl rfl ?_
        refine sIt (A := fun i => [some (.ref 52), some (.int (iI ((v : Nat) : Int))), some (.int (iI ((o : Nat) : Int))), some (.int (iI ((sz v : Nat) : Int))), some (.int (iI ((cntB (dfq w) (sz v - 1) : Nat) : Int))), some (.int (iI ((v * 64 + hcI (hsI (fun k => ((w k : Nat) : Int)) (sz v)) : Nat) : Int))), some (.int (iI (((ch c).2 i : Nat) : Int))), some (.int (iI ((i : Nat) : Int)))]) (B := fun _ => S) (fun _ => True) j True.intro (fun i hi84 hI84 ih84 => ?_) (fun hI84 => ?_)
        · have hi84 := hi84
          have hqi := hqm i (by omega)
          have hno : allB (fun k => decide (dk D ((ch c).2 i) k = w k)) (sz v) = false := by
            cases e : allB (fun k => decide (dk D ((ch c).2 i) k = w k)) (sz v) with
            | false => rfl
            | true => exact absurd (fun k hk => of_decide_eq_true (allB_iff.mp e k hk)) (hnf i (by omega))
          refine sL (pc' := 86) (i := .iload 6) rfl rfl ?_
          refine sIf_eq (p := 89) rfl rfl ⟨by omega, by omega⟩ (fun c5 => ?_) (fun c5 => ?_)
          · exfalso; omega
          · have c5 := c5
            refine sL (pc' := 91) (i := .iload 7) rfl rfl ?_
            refine sKl (p := 93) rfl rfl ?_
            refine sIc_ge (p := 96) rfl rfl ⟨by omega, by omega⟩ ⟨by omega, by omega⟩ (fun c6 => ?_) (fun c6 => ?_)
            · exfalso; omega
            · have c6 := c6
              refine sL (pc' := 97) (i := .aload_n 0) rfl rfl ?_
              refine sL (pc' := 99) (i := .iload 6) rfl rfl ?_
              refine sL (pc' := 100) (i := .iload_n 2) rfl rfl ?_
              refine sL (pc' := 101) (i := .iload_n 3) rfl rfl ?_
              refine sCv (p := 104) (as := [_, _, _]) rfl rfl rfl rfl (by decide) (Nat.le_of_ble_eq_true rfl) rfl (Nat.le_of_ble_eq_true rfl) (sk_52 _) rfl (by omega) (c_leadsTo (g := fun k => dk D ((ch c).2 i) k) (w := w) hA (by omega) (by omega) ho (fun k hk => hM.2.2.2.1 _ hqi.1 k (by rw [hqi.2.1]; exact hk)) hw (fun k hk => by have := hkb _ hqi.1 k (by rw [hqi.2.1]; exact hk); omega) (fun k hk => by have := hwb k hk; omega)) ?_
              refine sBe (p := 107) rfl rfl (fun c7 => ?_) (fun c7 => ?_)
              · have c7 := c7
                refine sL (pc' := 111) (i := .aload_n 0) rfl rfl ?_
                refine sGr (p := 114) rfl rfl (sk_52 _) rfl rfl rfl hA.2.2.2.2.2.1 ?_
                refine sL (pc' := 116) (i := .iload 6) rfl rfl ?_
                refine sAi (p := 117) (i := (ch c).2 i) rfl rfl hA.2.2.2.2.2.2.2.2.2.2.2.1 (by omega) ⟨by omega, by omega⟩ (hq.2.1 i (by omega)) ?_
                refine sL (pc' := 119) (i := .istore 6) (ls' := [some (.ref 52), some (.int (iI ((v : Nat) : Int))), some (.int (iI ((o : Nat) : Int))), some (.int (iI ((sz v : Nat) : Int))), some (.int (iI ((cntB (dfq w) (sz v - 1) : Nat) : Int))), some (.int (iI ((v * 64 + hcI (hsI (fun k => ((w k : Nat) : Int)) (sz v)) : Nat) : Int))), some (.int (iI (((ch c).2 (i + 1) : Nat) : Int))), some (.int (iI ((i : Nat) : Int)))]) rfl rfl ?_
                refine sInX (z := ((i : Nat) : Int)) (ls' := [some (.ref 52), some (.int (iI ((v : Nat) : Int))), some (.int (iI ((o : Nat) : Int))), some (.int (iI ((sz v : Nat) : Int))), some (.int (iI ((cntB (dfq w) (sz v - 1) : Nat) : Int))), some (.int (iI ((v * 64 + hcI (hsI (fun k => ((w k : Nat) : Int)) (sz v)) : Nat) : Int))), some (.int (iI (((ch c).2 (i + 1) : Nat) : Int))), some (.int (iI (((i : Nat) : Int) + 1)))]) (p := 122) rfl rfl (Nat.le_of_ble_eq_true rfl) rfl rfl ?_
                refine sL (i := .goto (-38)) rfl rfl ?_
                refine sRo (ls := [some (.ref 52), some (.int (iI ((v : Nat) : Int))), some (.int (iI ((o : Nat) : Int))), some (.int (iI ((sz v : Nat) : Int))), some (.int (iI ((cntB (dfq w) (sz v - 1) : Nat) : Int))), some (.int (iI ((v * 64 + hcI (hsI (fun k => ((w k : Nat) : Int)) (sz v)) : Nat) : Int))), some (.int (iI (((ch c).2 (i + 1) : Nat) : Int))), some (.int (iI ((i + 1 : Nat) : Int)))]) (T := _) (And.intro rfl (And.intro rfl (And.intro rfl (And.intro rfl (And.intro rfl (And.intro rfl (And.intro rfl (And.intro rfl (True.intro))))))))) (rfl) (ih84 ?_)
                exact True.intro
              · exfalso; rw [hno] at c7; exact absurd c7 (by decide)
        · have hI84 := hI84
          refine sL (pc' := 86) (i := .iload 6) rfl rfl ?_
          refine sIf_eq (p := 89) rfl rfl ⟨by omega, by omega⟩ (fun c8 => ?_) (fun c8 => ?_)
          · exfalso; omega
          · have c8 := c8
            refine sL (pc' := 91) (i := .iload 7) rfl rfl ?_
            refine sKl (p := 93) rfl rfl ?_
            refine sIc_ge (p := 96) rfl rfl ⟨by omega, by omega⟩ ⟨by omega, by omega⟩ (fun c9 => ?_) (fun c9 => ?_)
            · exfalso; omega
            · have c9 := c9
              refine sL (pc' := 97) (i := .aload_n 0) rfl rfl ?_
              refine sL (pc' := 99) (i := .iload 6) rfl rfl ?_
              refine sL (pc' := 100) (i := .iload_n 2) rfl rfl ?_
              refine sL (pc' := 101) (i := .iload_n 3) rfl rfl ?_
              refine sCv (p := 104) (as := [_, _, _]) rfl rfl rfl rfl (by decide) (Nat.le_of_ble_eq_true rfl) rfl (Nat.le_of_ble_eq_true rfl) (sk_52 _) rfl (by omega) (c_leadsTo (g := fun k => dk D ((ch c).2 j) k) (w := w) hA (by omega) (by omega) ho (fun k hk => hM.2.2.2.1 _ hqj.1 k (by rw [hqj.2.1]; exact hk)) hw (fun k hk => by have := hkb _ hqj.1 k (by rw [hqj.2.1]; exact hk); omega) (fun k hk => by have := hwb k hk; omega)) ?_
              refine sBe (p := 107) rfl rfl (fun c10 => ?_) (fun c10 => ?_)
              · exfalso; rw [hyes] at c10; exact absurd c10 (by decide)
              · have c10 := c10
                refine sL (pc' := 109) (i := .iload 6) rfl rfl ?_
                refine sEn (i := .ireturn) rfl (rfl) ?_
                exact ⟨by rw [ej], rfl⟩
      · exfalso; omega
    · exfalso; omega
theorem nN_fr : frO b S (nN S b fr U w s L) := by
  refine frO_trans ?_ (frO_trans (frO_wI (Or.inr (Or.inr (Or.inr (Or.inl rfl))))) (frO_wI (Or.inl rfl)))
  refine ⟨?_, ?_, ?_, fun e h1 h2 h3 h4 h5 h6 => funext fun j => by rw [nK_ne h4 h6, nS_ne h1]⟩
  · unfold nK nS
    by_cases c0 : fr.1 = 0
    · rw [if_pos c0]
      rfl
    · rw [if_neg c0]
      rfl
  · unfold nK nS
    by_cases c0 : fr.1 = 0
    · rw [if_pos c0]
      rfl
    · rw [if_neg c0]
      rfl
  · unfold nK nS
    by_cases c0 : fr.1 = 0
    · rw [if_pos c0]
      rfl
    · rw [if_neg c0]
      rfl
theorem c_nodeOf_n (hvC : vC S n sz) (hA : dA S b R) (hv : v < n) (ho : o + sz v ≤ 60) (hw : ∀ k, k < sz v → SI S 56 (o + k) = ((w k : Nat) : Int)) (hwb : ∀ k, k < sz v → w k < R) (hC : dC S b n sz D ch) (hP : dP n sz D out U) (hUR : U ≤ R) (hM : dM S b sz D ex out U) (hF : dF S b D out U fr) (hU : SI S 52 13 = (U : Nat)) (hU2 : 2 ≤ U) (hL : SI S 52 12 = (L : Nat)) (hroom : fr.1 = 0 → U < R) (hal : ¬ ∀ k, k < sz v → w k = w 0) (hnx : ∀ x, dl D x = true → dv D x = v → ¬ ∀ k, k < sz v → dk D x k = w k) (hc1 : c = v * 64 + hcI (hsI (fun k => ((w k : Nat) : Int)) (sz v))) : sM X 1 33 [.ref 52, .int (iI (v : Nat)), .int (iI (o : Nat))] S (sV (some (.int (iI ((nY fr U : Nat) : Int)))) (lkS (nN S b fr U w (sz v) L) b (nY fr U) v c (SI S 55 c))) := by
  have hb58 := hA.1
  have hR1 := hA.2.1
  have hR2 := hA.2.2.1
  have hwf := hvC.1
  have hn10 := hwf.1
  have hsv := hwf.2.1 v hv
  have hw0 : SI S 56 o = ((w 0 : Nat) : Int) := hw 0 (by omega)
  have hwb0 := hwb 0 (by omega)
  have hne0 : cntB (dfq w) (sz v - 1) ≠ 0 := fun h => hal (fun k hk => by
    cases k with
    | zero => rfl
    | succ k => exact Classical.byContradiction fun z => of_decide_eq_false (cntB_z.mp h k (by omega)) z)
  have hc := hc1
  have hcl := hc_lt (hsI (fun k => ((w k : Nat) : Int)) (sz v))
  have hcn : c < n * 64 := by omega
  have hq := (hC.1 c hcn).1
  have hq0 : SI S 55 (v * 64 + hcI (hsI (fun k => ((w k : Nat) : Int)) (sz v))) = (((ch c).2 0 : Nat) : Int) := by
    rw [← hc]
    exact hq.1
  have hqm : ∀ i, i < (ch c).1 → dl D ((ch c).2 i) = true ∧ dv D ((ch c).2 i) = v ∧ 2 ≤ (ch c).2 i ∧ (ch c).2 i < U := fun i hi => by
    have h1 := ((hC.1 c hcn).2 _).mp ⟨i, hi, rfl⟩
    have h2 := hP.1 _ h1.1
    have h3 := h1.2
    unfold dch at h3
    have h4 := hc_lt (hsI (fun k => ((dk D ((ch c).2 i) k : Nat) : Int)) (sz (dv D ((ch c).2 i))))
    exact ⟨h1.1, by omega, h2.1, h2.2.1⟩
  have hkb : ∀ x, dl D x = true → ∀ k, k < sz (dv D x) → dk D x k < R := fun x hx k hk => by
    rcases (hP.2.2.2.1 x hx k hk).1 with h | h | h
    · omega
    · have := (hP.1 _ h).2.1
      omega
    · rcases hP.2.1 with h2 | h2 <;> omega
  have hq1 : (ch c).1 ≤ R := pigeon (fun i => (ch c).2 i) (fun i hi => by have := hqm i hi; omega) (fun i j hi hj e => hq.2.2.2 i j hi hj e)
  obtain ⟨y1, y2, y3, y4, y5, y6⟩ := nY_ok hP hF hU2 hUR hroom
  have hnf : ∀ i, i < (ch c).1 → ¬ ∀ k, k < sz v → dk D ((ch c).2 i) k = w k := fun i hi => hnx _ (hqm i hi).1 (hqm i hi).2.1
  have hqz : (ch c).2 (ch c).1 = 0 := hq.2.2.1
  refine sIni (ls := [some (.ref 52), some (.int (iI ((v : Nat) : Int))), some (.int (iI ((o : Nat) : Int))), none, none, none, none, none]) rfl ?_
  refine sL (pc' := 1) (i := .aload_n 0) rfl rfl ?_
  refine sGc (p := 4) rfl rfl (sk_52 _) rfl rfl rfl ?_
  refine sL (pc' := 5) (i := .iload_n 1) rfl rfl ?_
  refine sCv (p := 8) (as := [_]) rfl rfl rfl rfl (by decide) (Nat.le_of_ble_eq_true rfl) rfl (Nat.le_of_ble_eq_true rfl) (sk_1 _) rfl (by omega) (c_siz hvC hv) ?_
  refine sL (pc' := 9) (i := .istore_n 3) (ls' := [some (.ref 52), some (.int (iI ((v : Nat) : Int))), some (.int (iI ((o : Nat) : Int))), some (.int (iI ((sz v : Nat) : Int))), none, none, none, none]) rfl rfl ?_
  refine sKi (p := 10) rfl rfl ?_
  refine sL (pc' := 12) (i := .istore 4) (ls' := [some (.ref 52), some (.int (iI ((v : Nat) : Int))), some (.int (iI ((o : Nat) : Int))), some (.int (iI ((sz v : Nat) : Int))), some (.int (iI 0)), none, none, none]) rfl rfl ?_
  refine sKi (p := 13) rfl rfl ?_
  refine sL (pc' := 15) (i := .istore 5) (ls' := [some (.ref 52), some (.int (iI ((v : Nat) : Int))), some (.int (iI ((o : Nat) : Int))), some (.int (iI ((sz v : Nat) : Int))), some (.int (iI 0)), some (.int (iI 1)), none, none]) rfl rfl ?_
  refine sIt (A := fun i => [some (.ref 52), some (.int (iI ((v : Nat) : Int))), some (.int (iI ((o : Nat) : Int))), some (.int (iI ((sz v : Nat) : Int))), some (.int (iI ((cntB (dfq w) i : Nat) : Int))), some (.int (iI (((i : Nat) : Int) + 1))), none, none]) (B := fun _ => S) (fun _ => True) (sz v - 1) True.intro (fun i hi15 hI15 ih15 => ?_) (fun hI15 => ?_)
  · have hi15 := hi15
    have hwi := hwb (i + 1) (by omega)
    have hci := cntB_le (dfq w) i
    refine sL (pc' := 17) (i := .iload 5) rfl rfl ?_
    refine sL (pc' := 18) (i := .iload_n 3) rfl rfl ?_
    refine sIc_ge (p := 21) rfl rfl ⟨by omega, by omega⟩ ⟨by omega, by omega⟩ (fun c1 => ?_) (fun c1 => ?_)
    · exfalso; omega
    · have c1 := c1
      refine sL (pc' := 22) (i := .aload_n 0) rfl rfl ?_
      refine sGc (p := 25) rfl rfl (sk_52 _) rfl rfl rfl ?_
      refine sL (pc' := 26) (i := .iload_n 2) rfl rfl ?_
      refine sL (pc' := 28) (i := .iload 5) rfl rfl ?_
      refine sAd (p := 29) rfl rfl ?_
      refine sAi (p := 30) (i := o + (i + 1)) rfl rfl (sk_56 _) (by omega) ⟨by omega, by omega⟩ (hw (i + 1) (by omega)) ?_
      refine sL (pc' := 31) (i := .aload_n 0) rfl rfl ?_
      refine sGc (p := 34) rfl rfl (sk_52 _) rfl rfl rfl ?_
      refine sL (pc' := 35) (i := .iload_n 2) rfl rfl ?_
      refine sAi (p := 36) (i := o) rfl rfl (sk_56 _) (by omega) ⟨by omega, by omega⟩ hw0 ?_
      refine sIc_eq (p := 39) rfl rfl ⟨by omega, by omega⟩ ⟨by omega, by omega⟩ (fun c2 => ?_) (fun c2 => ?_)
      · have c2 := c2
        refine sInX (z := (((i : Nat) : Int) + 1)) (ls' := [some (.ref 52), some (.int (iI ((v : Nat) : Int))), some (.int (iI ((o : Nat) : Int))), some (.int (iI ((sz v : Nat) : Int))), some (.int (iI ((cntB (dfq w) i : Nat) : Int))), some (.int (iI ((((i : Nat) : Int) + 1) + 1))), none, none]) (p := 45) rfl rfl (Nat.le_of_ble_eq_true rfl) rfl rfl ?_
        refine sL (i := .goto (-30)) rfl rfl ?_
        refine sRo (ls := [some (.ref 52), some (.int (iI ((v : Nat) : Int))), some (.int (iI ((o : Nat) : Int))), some (.int (iI ((sz v : Nat) : Int))), some (.int (iI ((cntB (dfq w) (i + 1) : Nat) : Int))), some (.int (iI (((i + 1 : Nat) : Int) + 1))), none, none]) (T := _) (And.intro rfl (And.intro rfl (And.intro rfl (And.intro rfl (And.intro (congrArg (fun z => some (Value.int z)) (congrArg iI (cntB_f (p := dfq w) (decide_eq_false (by omega))))) (And.intro (congrArg (fun z => some (Value.int z)) (congrArg iI (by omega))) (True.intro))))))) (rfl) (ih15 ?_)
        exact True.intro
      · have c2 := c2
        refine sInX (z := ((cntB (dfq w) i : Nat) : Int)) (ls' := [some (.ref 52), some (.int (iI ((v : Nat) : Int))), some (.int (iI ((o : Nat) : Int))), some (.int (iI ((sz v : Nat) : Int))), some (.int (iI (((cntB (dfq w) i : Nat) : Int) + 1))), some (.int (iI (((i : Nat) : Int) + 1))), none, none]) (p := 42) rfl rfl (Nat.le_of_ble_eq_true rfl) rfl rfl ?_
        refine sInX (z := (((i : Nat) : Int) + 1)) (ls' := [some (.ref 52), some (.int (iI ((v : Nat) : Int))), some (.int (iI ((o : Nat) : Int))), some (.int (iI ((sz v : Nat) : Int))), some (.int (iI (((cntB (dfq w) i : Nat) : Int) + 1))), some (.int (iI ((((i : Nat) : Int) + 1) + 1))), none, none]) (p := 45) rfl rfl (Nat.le_of_ble_eq_true rfl) rfl rfl ?_
        refine sL (i := .goto (-30)) rfl rfl ?_
        refine sRo (ls := [some (.ref 52), some (.int (iI ((v : Nat) : Int))), some (.int (iI ((o : Nat) : Int))), some (.int (iI ((sz v : Nat) : Int))), some (.int (iI ((cntB (dfq w) (i + 1) : Nat) : Int))), some (.int (iI (((i + 1 : Nat) : Int) + 1))), none, none]) (T := _) (And.intro rfl (And.intro rfl (And.intro rfl (And.intro rfl (And.intro (congrArg (fun z => some (Value.int z)) (congrArg iI (cntB_t (p := dfq w) (decide_eq_true (by omega))))) (And.intro (congrArg (fun z => some (Value.int z)) (congrArg iI (by omega))) (True.intro))))))) (rfl) (ih15 ?_)
        exact True.intro
  · have hI15 := hI15
    have hci := cntB_le (dfq w) (sz v - 1)
    refine sL (pc' := 17) (i := .iload 5) rfl rfl ?_
    refine sL (pc' := 18) (i := .iload_n 3) rfl rfl ?_
    refine sIc_ge (p := 21) rfl rfl ⟨by omega, by omega⟩ ⟨by omega, by omega⟩ (fun c3 => ?_) (fun c3 => ?_)
    · have c3 := c3
      refine sL (pc' := 50) (i := .iload 4) rfl rfl ?_
      refine sIf_ne (p := 53) rfl rfl ⟨by omega, by omega⟩ (fun c4 => ?_) (fun c4 => ?_)
      · have c4 := c4
        refine sL (pc' := 61) (i := .iload_n 1) rfl rfl ?_
        refine sL (pc' := 62) (i := .iload_n 3) rfl rfl ?_
        refine sL (pc' := 63) (i := .aload_n 0) rfl rfl ?_
        refine sGc (p := 66) rfl rfl (sk_52 _) rfl rfl rfl ?_
        refine sL (pc' := 67) (i := .iload_n 2) rfl rfl ?_
        refine sCs (p := 70) (as := [_, _, _, _]) rfl rfl rfl rfl (by decide) (Nat.le_of_ble_eq_true rfl) rfl (Nat.le_of_ble_eq_true rfl) rfl (by omega) (c_chainOf (N := 60) (f := fun k => ((w k : Nat) : Int)) (sk_56 _) ⟨by omega, by omega⟩ (by omega) hw) ?_
        refine sL (pc' := 72) (i := .istore 5) (ls' := [some (.ref 52), some (.int (iI ((v : Nat) : Int))), some (.int (iI ((o : Nat) : Int))), some (.int (iI ((sz v : Nat) : Int))), some (.int (iI ((cntB (dfq w) (sz v - 1) : Nat) : Int))), some (.int (iI ((v * 64 + hcI (hsI (fun k => ((w k : Nat) : Int)) (sz v)) : Nat) : Int))), none, none]) rfl rfl ?_
        refine sL (pc' := 73) (i := .aload_n 0) rfl rfl ?_
        refine sGc (p := 76) rfl rfl (sk_52 _) rfl rfl rfl ?_
        refine sL (pc' := 78) (i := .iload 5) rfl rfl ?_
        refine sAi (p := 79) (i := v * 64 + hcI (hsI (fun k => ((w k : Nat) : Int)) (sz v))) rfl rfl (sk_55 _) (by omega) ⟨by omega, by omega⟩ hq0 ?_
        refine sL (pc' := 81) (i := .istore 6) (ls' := [some (.ref 52), some (.int (iI ((v : Nat) : Int))), some (.int (iI ((o : Nat) : Int))), some (.int (iI ((sz v : Nat) : Int))), some (.int (iI ((cntB (dfq w) (sz v - 1) : Nat) : Int))), some (.int (iI ((v * 64 + hcI (hsI (fun k => ((w k : Nat) : Int)) (sz v)) : Nat) : Int))), some (.int (iI (((ch c).2 0 : Nat) : Int))), none]) rfl rfl ?_
        refine sKi (p := 82) rfl rfl ?_
        refine sL (pc' := 84) (i := .istore 7) (ls' := [some (.ref 52), some (.int (iI ((v : Nat) : Int))), some (.int (iI ((o : Nat) : Int))), some (.int (iI ((sz v : Nat) : Int))), some (.int (iI ((cntB (dfq w) (sz v - 1) : Nat) : Int))), some (.int (iI ((v * 64 + hcI (hsI (fun k => ((w k : Nat) : Int)) (sz v)) : Nat) : Int))), some (.int (iI (((ch c).2 0 : Nat) : Int))), some (.int (iI 0))]) rfl rfl ?_
        refine sIt (A := fun i => [some (.ref 52), some (.int (iI ((v : Nat) : Int))), some (.int (iI ((o : Nat) : Int))), some (.int (iI ((sz v : Nat) : Int))), some (.int (iI ((cntB (dfq w) (sz v - 1) : Nat) : Int))), some (.int (iI ((v * 64 + hcI (hsI (fun k => ((w k : Nat) : Int)) (sz v)) : Nat) : Int))), some (.int (iI (((ch c).2 i : Nat) : Int))), some (.int (iI ((i : Nat) : Int)))]) (B := fun _ => S) (fun _ => True) ((ch c).1) True.intro (fun i hi84 hI84 ih84 => ?_) (fun hI84 => ?_)
        · have hi84 := hi84
          have hqi := hqm i (by omega)
          have hno : allB (fun k => decide (dk D ((ch c).2 i) k = w k)) (sz v) = false := by
            cases e : allB (fun k => decide (dk D ((ch c).2 i) k = w k)) (sz v) with
            | false => rfl
            | true => exact absurd (fun k hk => of_decide_eq_true (allB_iff.mp e k hk)) (hnf i (by omega))
          refine sL (pc' := 86) (i := .iload 6) rfl rfl ?_
          refine sIf_eq (p := 89) rfl rfl ⟨by omega, by omega⟩ (fun c5 => ?_) (fun c5 => ?_)
          · exfalso; omega
          · have c5 := c5
            refine sL (pc' := 91) (i := .iload 7) rfl rfl ?_
            refine sKl (p := 93) rfl rfl ?_
            refine sIc_ge (p := 96) rfl rfl ⟨by omega, by omega⟩ ⟨by omega, by omega⟩ (fun c6 => ?_) (fun c6 => ?_)
            · exfalso; omega
            · have c6 := c6
              refine sL (pc' := 97) (i := .aload_n 0) rfl rfl ?_
              refine sL (pc' := 99) (i := .iload 6) rfl rfl ?_
              refine sL (pc' := 100) (i := .iload_n 2) rfl rfl ?_
              refine sL (pc' := 101) (i := .iload_n 3) rfl rfl ?_
              refine sCv (p := 104) (as := [_, _, _]) rfl rfl rfl rfl (by decide) (Nat.le_of_ble_eq_true rfl) rfl (Nat.le_of_ble_eq_true rfl) (sk_52 _) rfl (by omega) (c_leadsTo (g := fun k => dk D ((ch c).2 i) k) (w := w) hA (by omega) (by omega) ho (fun k hk => hM.2.2.2.1 _ hqi.1 k (by rw [hqi.2.1]; exact hk)) hw (fun k hk => by have := hkb _ hqi.1 k (by rw [hqi.2.1]; exact hk); omega) (fun k hk => by have := hwb k hk; omega)) ?_
              refine sBe (p := 107) rfl rfl (fun c7 => ?_) (fun c7 => ?_)
              · have c7 := c7
                refine sL (pc' := 111) (i := .aload_n 0) rfl rfl ?_
                refine sGr (p := 114) rfl rfl (sk_52 _) rfl rfl rfl hA.2.2.2.2.2.1 ?_
                refine sL (pc' := 116) (i := .iload 6) rfl rfl ?_
                refine sAi (p := 117) (i := (ch c).2 i) rfl rfl hA.2.2.2.2.2.2.2.2.2.2.2.1 (by omega) ⟨by omega, by omega⟩ (hq.2.1 i (by omega)) ?_
                refine sL (pc' := 119) (i := .istore 6) (ls' := [some (.ref 52), some (.int (iI ((v : Nat) : Int))), some (.int (iI ((o : Nat) : Int))), some (.int (iI ((sz v : Nat) : Int))), some (.int (iI ((cntB (dfq w) (sz v - 1) : Nat) : Int))), some (.int (iI ((v * 64 + hcI (hsI (fun k => ((w k : Nat) : Int)) (sz v)) : Nat) : Int))), some (.int (iI (((ch c).2 (i + 1) : Nat) : Int))), some (.int (iI ((i : Nat) : Int)))]) rfl rfl ?_
                refine sInX (z := ((i : Nat) : Int)) (ls' := [some (.ref 52), some (.int (iI ((v : Nat) : Int))), some (.int (iI ((o : Nat) : Int))), some (.int (iI ((sz v : Nat) : Int))), some (.int (iI ((cntB (dfq w) (sz v - 1) : Nat) : Int))), some (.int (iI ((v * 64 + hcI (hsI (fun k => ((w k : Nat) : Int)) (sz v)) : Nat) : Int))), some (.int (iI (((ch c).2 (i + 1) : Nat) : Int))), some (.int (iI (((i : Nat) : Int) + 1)))]) (p := 122) rfl rfl (Nat.le_of_ble_eq_true rfl) rfl rfl ?_
                refine sL (i := .goto (-38)) rfl rfl ?_
                refine sRo (ls := [some (.ref 52), some (.int (iI ((v : Nat) : Int))), some (.int (iI ((o : Nat) : Int))), some (.int (iI ((sz v : Nat) : Int))), some (.int (iI ((cntB (dfq w) (sz v - 1) : Nat) : Int))), some (.int (iI ((v * 64 + hcI (hsI (fun k => ((w k : Nat) : Int)) (sz v)) : Nat) : Int))), some (.int (iI (((ch c).2 (i + 1) : Nat) : Int))), some (.int (iI ((i + 1 : Nat) : Int)))]) (T := _) (And.intro rfl (And.intro rfl (And.intro rfl (And.intro rfl (And.intro rfl (And.intro rfl (And.intro rfl (And.intro rfl (True.intro))))))))) (rfl) (ih84 ?_)
                exact True.intro
              · exfalso; rw [hno] at c7; exact absurd c7 (by decide)
        · have hI84 := hI84
          refine sL (pc' := 86) (i := .iload 6) rfl rfl ?_
          refine sIf_eq (p := 89) rfl rfl ⟨by omega, by omega⟩ (fun c8 => ?_) (fun c8 => ?_)
          · have c8 := c8
            refine sL (pc' := 126) (i := .aload_n 0) rfl rfl ?_
            refine sL (pc' := 127) (i := .iload_n 2) rfl rfl ?_
            refine sL (pc' := 128) (i := .iload_n 3) rfl rfl ?_
            refine sCv (p := 131) (as := [_, _]) rfl rfl rfl rfl (by decide) (Nat.le_of_ble_eq_true rfl) rfl (Nat.le_of_ble_eq_true rfl) (sk_52 _) rfl (by omega) (c_newNode hA hF hU hU2 hUR hroom (by omega) ho hw hwb hL) ?_
            refine sL (pc' := 133) (i := .istore 6) (ls' := [some (.ref 52), some (.int (iI ((v : Nat) : Int))), some (.int (iI ((o : Nat) : Int))), some (.int (iI ((sz v : Nat) : Int))), some (.int (iI ((cntB (dfq w) (sz v - 1) : Nat) : Int))), some (.int (iI ((v * 64 + hcI (hsI (fun k => ((w k : Nat) : Int)) (sz v)) : Nat) : Int))), some (.int (iI ((nY fr U : Nat) : Int))), some (.int (iI (((ch c).1 : Nat) : Int)))]) rfl rfl ?_
            refine sL (pc' := 134) (i := .aload_n 0) rfl rfl ?_
            refine sL (pc' := 136) (i := .iload 6) rfl rfl ?_
            refine sL (pc' := 137) (i := .iload_n 1) rfl rfl ?_
            refine sL (pc' := 139) (i := .iload 5) rfl rfl ?_
            refine sCv (p := 142) (as := [_, _, _]) rfl rfl rfl rfl (by decide) (Nat.le_of_ble_eq_true rfl) rfl (Nat.le_of_ble_eq_true rfl) (sk_52 _) rfl (by omega) (c_link (R := R) (c := v * 64 + hcI (hsI (fun k => ((w k : Nat) : Int)) (sz v))) (h := SI S 55 c) (dA_cg (S := S) (by exact nN_fr.1) (by exact nN_fr.2.1) hA) (by omega) (by omega) ((nN_ne (by decide) (by omega) (by omega) _).trans (by rw [← hc]))) ?_
            refine sL (pc' := 144) (i := .iload 6) rfl rfl ?_
            refine sEn (i := .ireturn) rfl (rfl) ?_
            exact ⟨rfl, by rw [← hc]; rfl⟩
          · exfalso; omega
      · exfalso; omega
    · exfalso; omega
end DN
