/-! ===== the diagram: the nodes that are to be turned ===== -/
theorem inj_cnt {U : Nat} : ∀ {f : Nat} {P : Nat → Bool} {q : Nat → Nat}, (∀ i, i < f → q i < U ∧ P (q i) = true) → (∀ i j, i < f → j < f → q i = q j → i = j) → f ≤ cntB P U
  | 0, _, _, _, _ => Nat.zero_le _
  | f + 1, P, q, h, hi => by
    have h1 := h f (by omega)
    rw [cntB_rm h1.2 h1.1]
    have := inj_cnt (U := U) (f := f) (P := fun i => P i && !decide (i = q f)) (q := q) (fun i hif => ⟨(h i (by omega)).1, by
      rw [(h i (by omega)).2, decide_eq_false (fun z => by have := hi i f (by omega) (by omega) z; omega)]
      rfl⟩) (fun i j h2 h3 e => hi i j (by omega) (by omega) e)
    omega
theorem dep_cof {n : Nat} {sz : Nat → Nat} (hw : wf n sz) {a e : Nat} {g : Nat → Bool} (ha : a < n) (he : e < n) (hae : a ≠ e) (h : ∀ k, k < sz a → dpT n sz (cof n sz g a k) e = false) : dpT n sz g e = false := dpT_of hw he (fun r hr j hj => by
  have h1 := dpT_chg hw he hj (h (val sz r a) (hw.val ha r)) hr
  rw [cof_at (chg_lt hw he hj hr), cof_at hr, chg_val] at h1
  rw [← h1, ← chg_ne hw he hj hae (r := r), chg_val])
section DW
variable {X : List Int32} {S : ST} {b R n U a e p x : Nat} {sz ord pl : Nat → Nat} {D : DT} {ex : Nat → Nat} {ch : Nat → CQ}
theorem cn_fpl (hwf : wf n sz) (ho : prm n ord pl) (hP : dP n sz D 0 U) (hc : cnO n sz ord D) (hx : dl D x = true) : fpl n sz ord (ds D x) < n ∧ dv D x = ord (fpl n sz ord (ds D x)) := by
  have h1 := hP.2.2.1 x hx
  exact ⟨fpl_lt hwf ho h1.2.1 (lfv_no hwf h1.2.1 h1.2.2 h1.1), hc x hx⟩
theorem cn_p (hwf : wf n sz) (ho : prm n ord pl) (hP : dP n sz D 0 U) (hc : cnO n sz ord D) (hp : p < n) (hx : dl D x = true) (hv : dv D x = ord p) : fpl n sz ord (ds D x) = p := by
  obtain ⟨h1, h2⟩ := cn_fpl hwf ho hP hc hx
  have h3 : ord p = ord (fpl n sz ord (ds D x)) := hv.symm.trans h2
  have h4 := (ho.1 p hp).2
  rw [h3, (ho.1 _ h1).2] at h4
  exact h4
theorem lv_dep (hwf : wf n sz) (ho : prm n ord pl) (hP : dP n sz D 0 U) (hM : dM S b sz D ex 0 U) (hc : cnO n sz ord D) (hp : p + 1 < n) (hx : dl D x = true) (hv : dv D x = ord p) : anyB (fun k => decide (SI S b (dk D x k) = ((ord (p + 1) : Nat) : Int))) (sz (ord p)) = dpT n sz (ds D x) (ord (p + 1)) := by
  have han := (ho.1 p (by omega)).1
  have hen := (ho.1 (p + 1) hp).1
  have hae : ord p ≠ ord (p + 1) := ord_ne ho (by omega) hp (by omega)
  have hf := cn_p hwf ho hP hc (by omega) hx hv
  have hq : ∀ q, q < p → dpT n sz (ds D x) (ord q) = false := fun q hq => fpl_no (by rw [hf]; exact hq)
  have hk : ∀ k, k < sz (ord p) → dok D 0 (dk D x k) ∧ ds D (dk D x k) = cof n sz (ds D x) (ord p) k := fun k hk => by
    have := hP.2.2.2.1 x hx k (by rw [hv]; exact hk)
    rw [hv] at this
    exact this
  cases hd : dpT n sz (ds D x) (ord (p + 1)) with
  | false =>
    cases hb : anyB (fun k => decide (SI S b (dk D x k) = ((ord (p + 1) : Nat) : Int))) (sz (ord p)) with
    | false => rfl
    | true =>
      exfalso
      obtain ⟨k, hk1, hk2⟩ := anyB_iff.mp hb
      have hk2 := of_decide_eq_true hk2
      obtain ⟨h1, h2⟩ := hk k hk1
      have h3 : dl D (dk D x k) = true := by
        rcases h1 with h | h | h
        · have h0 : dk D x k = 0 ∨ dk D x k = 1 := by omega
          have k1 := hM.2.1
          have k2 := hM.2.2.1
          rcases h0 with h0 | h0 <;> (rw [h0] at hk2; omega)
        · exact h
        · have k1 := hM.2.1
          rw [h] at hk2
          omega
      have h4 := (hP.2.2.1 _ h3).2.2
      rw [hM.1 _ h3] at hk2
      rw [show dv D (dk D x k) = ord (p + 1) from by omega, h2, cof_other hwf hen han hk1 hd] at h4
      exact absurd h4 (by decide)
  | true =>
    refine anyB_iff.mpr (Classical.byContradiction fun c => ?_)
    have h0 : dpT n sz (ds D x) (ord (p + 1)) = false := dep_cof hwf han hen hae (fun k hk1 => by
      cases h5 : dpT n sz (cof n sz (ds D x) (ord p) k) (ord (p + 1)) with
      | false => rfl
      | true =>
        exfalso
        obtain ⟨h1, h2⟩ := hk k hk1
        have h3 : dl D (dk D x k) = true := by
          rcases h1 with h | h | h
          · rw [← h2, leaf_no hP hwf hen h] at h5
            exact absurd h5 (by decide)
          · exact h
          · rw [← h2, leaf_no hP hwf hen (by omega)] at h5
            exact absurd h5 (by decide)
        have h4 : fpl n sz ord (ds D (dk D x k)) = p + 1 := fpl_eq hp (by rw [h2]; exact h5) (fun q hq2 => by
          rw [h2]
          by_cases cq : q = p
          · rw [cq]
            exact cof_self hwf han hk1
          · exact cof_other hwf (ho.1 q (by omega)).1 han hk1 (hq q (by omega)))
        exact c ⟨k, hk1, decide_eq_true (by rw [hM.1 _ h3, hc _ h3, h4])⟩)
    rw [h0] at hd
    exact absurd hd (by decide)
/-- the queue as it is filled -/
def gIn (n : Nat) (sz : Nat → Nat) (D : DT) (e : Nat) (c : CQ) (q0 : CQ) : Nat → CQ
  | 0 => q0
  | m + 1 => if dpT n sz (ds D (c.2 m)) e then ((gIn n sz D e c q0 m).1 + 1, fup (gIn n sz D e c q0 m).2 (gIn n sz D e c q0 m).1 (c.2 m)) else gIn n sz D e c q0 m
def gOut (n : Nat) (sz : Nat → Nat) (D : DT) (a e : Nat) (ch : Nat → CQ) : Nat → CQ
  | 0 => (0, fun _ => 0)
  | i + 1 => gIn n sz D e (ch (a * 64 + i)) (gOut n sz D a e ch i) (ch (a * 64 + i)).1
def gOK (n : Nat) (sz : Nat → Nat) (D : DT) (a e : Nat) (q : CQ) (V : Nat → Prop) : Prop := (∀ j, j < q.1 → dl D (q.2 j) = true ∧ dv D (q.2 j) = a ∧ dpT n sz (ds D (q.2 j)) e = true ∧ V (q.2 j)) ∧ (∀ i j, i < q.1 → j < q.1 → q.2 i = q.2 j → i = j) ∧ (∀ x, dl D x = true → dv D x = a → dpT n sz (ds D x) e = true → V x → ∃ j, j < q.1 ∧ q.2 j = x)
def vis (sz : Nat → Nat) (D : DT) (a : Nat) (ch : Nat → CQ) (i m : Nat) (x : Nat) : Prop := dch sz D x < a * 64 + i ∨ (dch sz D x = a * 64 + i ∧ ∃ m', m' < m ∧ (ch (a * 64 + i)).2 m' = x)
theorem gOK_s {q c : CQ} {i m : Nat} (hP : dP n sz D 0 U) (hC : dC S b n sz D ch) (ha : a < n) (hi : i < 64) (hm : m < (ch (a * 64 + i)).1) (h : gOK n sz D a e (gIn n sz D e (ch (a * 64 + i)) q m) (vis sz D a ch i m)) : gOK n sz D a e (gIn n sz D e (ch (a * 64 + i)) q (m + 1)) (vis sz D a ch i (m + 1)) := by
  have hcc := hC.1 (a * 64 + i) (by omega)
  have hmem := (hcc.2 _).mp ⟨m, hm, rfl⟩
  generalize hx0 : (ch (a * 64 + i)).2 m = x0 at *
  have hdv : dv D x0 = a := by
    have h1 := hmem.2
    unfold dch at h1
    have h2 := hc_lt (hsI (fun k => ((dk D x0 k : Nat) : Int)) (sz (dv D x0)))
    omega
  have hnv : ¬ vis sz D a ch i m x0 := by
    rintro (h1 | ⟨_, m', h1, h2⟩)
    · have := hmem.2
      omega
    · have := hcc.1.2.2.2 m' m (by omega) hm (h2.trans hx0.symm)
      omega
  have hup : ∀ x, vis sz D a ch i m x → vis sz D a ch i (m + 1) x := fun x hx => by
    rcases hx with h1 | ⟨h1, m', h2, h3⟩
    · exact Or.inl h1
    · exact Or.inr ⟨h1, m', by omega, h3⟩
  have hdn : ∀ x, vis sz D a ch i (m + 1) x → vis sz D a ch i m x ∨ x = x0 := fun x hx => by
    rcases hx with h1 | ⟨h1, m', h2, h3⟩
    · exact Or.inl (Or.inl h1)
    · by_cases c9 : m' = m
      · exact Or.inr (by rw [← h3, c9, hx0])
      · exact Or.inl (Or.inr ⟨h1, m', by omega, h3⟩)
  show gOK n sz D a e (if dpT n sz (ds D ((ch (a * 64 + i)).2 m)) e then _ else _) _
  rw [hx0]
  obtain ⟨g1, g2, g3⟩ := h
  cases hd : dpT n sz (ds D x0) e with
  | false =>
    rw [if_neg (by decide)]
    refine ⟨fun j hj => ?_, g2, fun x h1 h2 h3 h4 => ?_⟩
    · obtain ⟨k1, k2, k3, k4⟩ := g1 j hj
      exact ⟨k1, k2, k3, hup _ k4⟩
    · rcases hdn x h4 with h5 | h5
      · exact g3 x h1 h2 h3 h5
      · rw [h5, hd] at h3
        exact absurd h3 (by decide)
  | true =>
    rw [if_pos rfl]
    generalize gIn n sz D e (ch (a * 64 + i)) q m = q9 at *
    refine ⟨fun j hj => ?_, fun i2 j2 h1 h2 h3 => ?_, fun x h1 h2 h3 h4 => ?_⟩
    · have hj : j < q9.1 + 1 := hj
      show dl D (fup q9.2 q9.1 x0 j) = true ∧ dv D (fup q9.2 q9.1 x0 j) = a ∧ dpT n sz (ds D (fup q9.2 q9.1 x0 j)) e = true ∧ vis sz D a ch i (m + 1) (fup q9.2 q9.1 x0 j)
      by_cases cj : j = q9.1
      · rw [cj, fup_at]
        exact ⟨hmem.1, hdv, hd, Or.inr ⟨hmem.2.symm, m, by omega, hx0⟩⟩
      · rw [fup_ne cj]
        obtain ⟨k1, k2, k3, k4⟩ := g1 j (by omega)
        exact ⟨k1, k2, k3, hup _ k4⟩
    · have h1 : i2 < q9.1 + 1 := h1
      have h2 : j2 < q9.1 + 1 := h2
      have h3 : fup q9.2 q9.1 x0 i2 = fup q9.2 q9.1 x0 j2 := h3
      by_cases ci : i2 = q9.1
      · by_cases cj : j2 = q9.1
        · omega
        · rw [ci, fup_at, fup_ne cj] at h3
          exact absurd (g1 j2 (by omega)).2.2.2 (by rw [← h3]; exact hnv)
      · by_cases cj : j2 = q9.1
        · rw [cj, fup_at, fup_ne ci] at h3
          exact absurd (g1 i2 (by omega)).2.2.2 (by rw [h3]; exact hnv)
        · rw [fup_ne ci, fup_ne cj] at h3
          exact g2 i2 j2 (by omega) (by omega) h3
    · rcases hdn x h4 with h5 | h5
      · obtain ⟨j, k1, k2⟩ := g3 x h1 h2 h3 h5
        refine ⟨j, (show j < q9.1 + 1 by omega), ?_⟩
        show fup q9.2 q9.1 x0 j = x
        rw [fup_ne (by omega)]
        exact k2
      · refine ⟨q9.1, (show q9.1 < q9.1 + 1 by omega), ?_⟩
        show fup q9.2 q9.1 x0 q9.1 = x
        rw [fup_at, h5]
theorem gOK_v {q : CQ} {V V' : Nat → Prop} (h : gOK n sz D a e q V) (hv : ∀ x, dl D x = true → dv D x = a → (V x ↔ V' x)) : gOK n sz D a e q V' := by
  obtain ⟨g1, g2, g3⟩ := h
  exact ⟨fun j hj => ⟨(g1 j hj).1, (g1 j hj).2.1, (g1 j hj).2.2.1, (hv _ (g1 j hj).1 (g1 j hj).2.1).mp (g1 j hj).2.2.2⟩, g2, fun x h1 h2 h3 h4 => g3 x h1 h2 h3 ((hv x h1 h2).mpr h4)⟩
theorem gOK_in {q : CQ} {i : Nat} (hP : dP n sz D 0 U) (hC : dC S b n sz D ch) (ha : a < n) (hi : i < 64) (h : gOK n sz D a e q (vis sz D a ch i 0)) : ∀ {m : Nat}, m ≤ (ch (a * 64 + i)).1 → gOK n sz D a e (gIn n sz D e (ch (a * 64 + i)) q m) (vis sz D a ch i m)
  | 0, _ => h
  | m + 1, hm => gOK_s (c := q) hP hC ha hi (by omega) (gOK_in hP hC ha hi h (by omega))
theorem gOK_out (hP : dP n sz D 0 U) (hC : dC S b n sz D ch) (ha : a < n) : ∀ {i : Nat}, i ≤ 64 → gOK n sz D a e (gOut n sz D a e ch i) (vis sz D a ch i 0)
  | 0, _ => ⟨fun j hj => absurd hj (Nat.not_lt_zero j), fun i j hi => absurd hi (Nat.not_lt_zero i), fun x h1 h2 h3 h4 => by
    rcases h4 with h5 | ⟨_, m', h5, _⟩
    · unfold dch at h5
      rw [h2] at h5
      omega
    · omega⟩
  | i + 1, hi => by
    have hcc := hC.1 (a * 64 + i) (by omega)
    refine gOK_v (gOK_in hP hC ha (by omega) (gOK_out hP hC ha (i := i) (by omega)) (Nat.le_refl _)) (fun x h1 h2 => ?_)
    constructor
    · rintro (h3 | ⟨h3, _⟩)
      · exact Or.inl (by omega)
      · exact Or.inl (by omega)
    · rintro (h3 | ⟨_, m', h3, _⟩)
      · by_cases c : dch sz D x = a * 64 + i
        · obtain ⟨m', k1, k2⟩ := (hcc.2 x).mpr ⟨h1, c.symm⟩
          exact Or.inr ⟨c, m', k1, k2⟩
        · exact Or.inl (by omega)
      · omega
theorem gOK_le {q : CQ} {V : Nat → Prop} (hP : dP n sz D 0 U) (h : gOK n sz D a e q V) : q.1 ≤ cntB (dl D) U := inj_cnt (fun i hi => ⟨(hP.1 _ (h.1 i hi).1).2.1, (h.1 i hi).1⟩) h.2.1
def qW (S : ST) (b : Nat) (q : CQ) : ST := wIA S (b + 4) (fun j => if j < q.1 then ((q.2 j : Nat) : Int) else SI S (b + 4) j)
theorem qW_0 (S : ST) (b : Nat) (f : Nat → Nat) : qW S b (0, f) = S := wIA_0 (fun k => (if_neg (Nat.not_lt_zero k)).symm)
theorem qW_s {q : CQ} {x0 : Nat} : wI (qW S b q) (b + 4) q.1 ((x0 : Nat) : Int) = qW S b (q.1 + 1, fup q.2 q.1 x0) := wI_wIA (fun k => by
  show _ = if k < q.1 + 1 then ((fup q.2 q.1 x0 k : Nat) : Int) else _
  by_cases c : k = q.1
  · rw [if_pos c, if_pos (by omega), c, fup_at]
  · rw [if_neg c, fup_ne c]
    by_cases c2 : k < q.1
    · rw [if_pos c2, if_pos (by omega)]
    · rw [if_neg c2, if_neg (by omega)])
theorem qW_ne {q : CQ} {c : Nat} (h : c ≠ b + 4) (j : Nat) : SI (qW S b q) c j = SI S c j := rA_ne h j
theorem qW_vC {q : CQ} (hb : b = 58 ∨ 203 ≤ b) (h : vC S n sz) : vC (qW S b q) n sz := by
  obtain ⟨h1, h2, h3, h4, h5⟩ := h
  exact ⟨h1, (qW_ne (by omega) _).trans h2, (qW_ne (by omega) _).trans h3, fun k hk => (qW_ne (by omega) _).trans (h4 k hk), fun k hk => (qW_ne (by omega) _).trans (h5 k hk)⟩
theorem dG_qW {out : Nat} {q : CQ} (h : dG S b R n sz D ex out U) : dG (qW S b q) b R n sz D ex out U := by
  have hb := h.1.1
  exact dG_cg (S := S) rfl rfl (funext fun j => qW_ne (by omega) j) (funext fun j => qW_ne (by omega) j) (funext fun j => qW_ne (by omega) j) (funext fun j => qW_ne (by omega) j) (funext fun j => qW_ne (by omega) j) (funext fun j => qW_ne (by omega) j) (funext fun j => qW_ne (by omega) j) h
theorem c_leadsToVariable (hvC : vC S n sz) (hG : dG S b R n sz D ex 0 U) (ho : prm n ord pl) (hc : cnO n sz ord D) (hp : p + 1 < n) (ha : a = ord p) (he : e = ord (p + 1)) (hx : dl D x = true) (hv : dv D x = a) : sM X 1 43 [.ref 52, .int (iI ((x : Nat) : Int)), .int (iI ((a : Nat) : Int)), .int (iI ((e : Nat) : Int))] S (sV (some (.int (iI (bI (dpT n sz (ds D x) e))))) S) := by
  have hA := hG.1
  have hP := hG.2.1
  have hM := hG.2.2.1
  have hUR := hG.2.2.2.2.2.2.2.1
  have hU2 := hG.2.2.2.2.2.2.2.2.1
  have hwf := hvC.1
  have hn10 := hwf.1
  have han : a < n := by rw [ha]; exact (ho.1 p (by omega)).1
  have hen : e < n := by rw [he]; exact (ho.1 (p + 1) hp).1
  have hsa := hwf.2.1 a han
  have hxU := hP.1 x hx
  have hk : ∀ k, k < sz a → dok D 0 (dk D x k) := fun k hk => (hP.2.2.2.1 x hx k (by rw [hv]; exact hk)).1
  rw [he, ← lv_dep hwf ho hP hM hc hp hx (hv.trans ha), ← he, ← ha]
  have hb58 := hA.1
  have hR1 := hA.2.1
  have hR2 := hA.2.2.1
  refine sIni (ls := [some (.ref 52), some (.int (iI ((x : Nat) : Int))), some (.int (iI ((a : Nat) : Int))), some (.int (iI ((e : Nat) : Int))), none]) rfl ?_
  refine sKi (p := 1) rfl rfl ?_
  refine sL (pc' := 3) (i := .istore 4) (ls' := [some (.ref 52), some (.int (iI ((x : Nat) : Int))), some (.int (iI ((a : Nat) : Int))), some (.int (iI ((e : Nat) : Int))), some (.int (iI 0))]) rfl rfl ?_
  refine sIt (A := fun i => [some (.ref 52), some (.int (iI ((x : Nat) : Int))), some (.int (iI ((a : Nat) : Int))), some (.int (iI ((e : Nat) : Int))), some (.int (iI ((i : Nat) : Int)))]) (B := fun _ => S) (fun i => anyB (fun k => decide (SI S b (dk D x k) = ((e : Nat) : Int))) i = false) (sz a) rfl (fun i hi3 hI3 ih3 => ?_) (fun hI3 => ?_)
  · have hi3 := hi3
    have hki := dok_lt hP hU2 (hk i hi3)
    have hvr : rg (SI S b (dk D x i)) := by
      rcases hk i hi3 with h | h | h
      · have h0 : dk D x i = 0 ∨ dk D x i = 1 := by omega
        rcases h0 with h0 | h0
        · rw [h0, hM.2.1]; exact ⟨by omega, by omega⟩
        · rw [h0, hM.2.2.1]; exact ⟨by omega, by omega⟩
      · rw [hM.1 _ h]
        have := (hP.2.2.1 _ h).1
        exact ⟨by omega, by omega⟩
      · rw [h, hM.2.1]; exact ⟨by omega, by omega⟩
    refine sL (pc' := 5) (i := .iload 4) rfl rfl ?_
    refine sL (pc' := 6) (i := .aload_n 0) rfl rfl ?_
    refine sGc (p := 9) rfl rfl (sk_52 _) rfl rfl rfl ?_
    refine sL (pc' := 10) (i := .iload_n 2) rfl rfl ?_
    refine sCv (p := 13) (as := [_]) rfl rfl rfl rfl (by decide) (Nat.le_of_ble_eq_true rfl) rfl (Nat.le_of_ble_eq_true rfl) (sk_1 _) rfl (by omega) (c_siz hvC han) ?_
    refine sIc_ge (p := 16) rfl rfl ⟨by omega, by omega⟩ ⟨by omega, by omega⟩ (fun c1 => ?_) (fun c1 => ?_)
    · exfalso; omega
    · have c1 := c1
      refine sL (pc' := 17) (i := .aload_n 0) rfl rfl ?_
      refine sGr (p := 20) rfl rfl (sk_52 _) rfl rfl rfl hA.2.2.2.1 ?_
      refine sL (pc' := 21) (i := .aload_n 0) rfl rfl ?_
      refine sGr (p := 24) rfl rfl (sk_52 _) rfl rfl rfl hA.2.2.2.2.2.2.2.2.1 ?_
      refine sL (pc' := 25) (i := .iload_n 1) rfl rfl ?_
      refine sKb (p := 27) rfl rfl ?_
      refine sMu (p := 28) rfl rfl ?_
      refine sL (pc' := 30) (i := .iload 4) rfl rfl ?_
      refine sAd (p := 31) rfl rfl ?_
      refine sAi (p := 32) (i := (x * 6) + i) rfl rfl hA.2.2.2.2.2.2.2.2.2.2.2.2.2.2 (by omega) ⟨by omega, by omega⟩ (hM.2.2.2.1 x hx i (by rw [hv]; omega)) ?_
      refine sAi (p := 33) (i := dk D x i) rfl rfl hA.2.2.2.2.2.2.2.2.2.1 (by omega) ⟨by omega, by omega⟩ rfl ?_
      refine sL (pc' := 34) (i := .iload_n 3) rfl rfl ?_
      refine sIc_ne (p := 37) rfl rfl hvr ⟨by omega, by omega⟩ (fun c2 => ?_) (fun c2 => ?_)
      · have c2 := c2
        refine sInX (z := ((i : Nat) : Int)) (ls' := [some (.ref 52), some (.int (iI ((x : Nat) : Int))), some (.int (iI ((a : Nat) : Int))), some (.int (iI ((e : Nat) : Int))), some (.int (iI (((i : Nat) : Int) + 1)))]) (p := 42) rfl rfl (Nat.le_of_ble_eq_true rfl) rfl rfl ?_
        refine sL (i := .goto (-39)) rfl rfl ?_
        refine sRo (ls := [some (.ref 52), some (.int (iI ((x : Nat) : Int))), some (.int (iI ((a : Nat) : Int))), some (.int (iI ((e : Nat) : Int))), some (.int (iI ((i + 1 : Nat) : Int)))]) (T := _) (And.intro rfl (And.intro rfl (And.intro rfl (And.intro rfl (And.intro rfl (True.intro)))))) (rfl) (ih3 ?_)
        show (anyB (fun k => decide (SI S b (dk D x k) = ((e : Nat) : Int))) i || decide (SI S b (dk D x i) = ((e : Nat) : Int))) = false
        rw [hI3, decide_eq_false (by assumption)]
        rfl
      · have c2 := c2
        refine sKi (p := 38) rfl rfl ?_
        refine sEn (i := .ireturn) rfl (rfl) ?_
        exact ⟨by rw [show anyB (fun k => decide (SI S b (dk D x k) = ((e : Nat) : Int))) (sz a) = true from anyB_iff.mpr ⟨i, by omega, decide_eq_true (by assumption)⟩]; rfl, rfl⟩
  · have hI3 := hI3
    refine sL (pc' := 5) (i := .iload 4) rfl rfl ?_
    refine sL (pc' := 6) (i := .aload_n 0) rfl rfl ?_
    refine sGc (p := 9) rfl rfl (sk_52 _) rfl rfl rfl ?_
    refine sL (pc' := 10) (i := .iload_n 2) rfl rfl ?_
    refine sCv (p := 13) (as := [_]) rfl rfl rfl rfl (by decide) (Nat.le_of_ble_eq_true rfl) rfl (Nat.le_of_ble_eq_true rfl) (sk_1 _) rfl (by omega) (c_siz hvC han) ?_
    refine sIc_ge (p := 16) rfl rfl ⟨by omega, by omega⟩ ⟨by omega, by omega⟩ (fun c3 => ?_) (fun c3 => ?_)
    · have c3 := c3
      refine sKi (p := 46) rfl rfl ?_
      refine sEn (i := .ireturn) rfl (rfl) ?_
      exact ⟨by rw [hI3]; rfl, rfl⟩
    · exfalso; omega
theorem cnt_lt (hP : dP n sz D 0 U) : cntB (dl D) U = 0 ∨ cntB (dl D) U < U := by
  by_cases c : U = 0
  · exact Or.inl (by rw [c]; rfl)
  · refine Or.inr ?_
    have h := cntB_le (dl D) U
    refine Nat.lt_of_le_of_ne h (fun z => ?_)
    have := cntB_f2.mp z 0 (by omega)
    have := (hP.1 0 this).1
    omega
theorem c_gather (hvC : vC S n sz) (hG : dG S b R n sz D ex 0 U) (hC : dC S b n sz D ch) (ho : prm n ord pl) (hc : cnO n sz ord D) (hp : p + 1 < n) (ha : a = ord p) (he : e = ord (p + 1)) : sM X 2 42 [.ref 52, .int (iI ((a : Nat) : Int)), .int (iI ((e : Nat) : Int))] S (sV (some (.int (iI (((gOut n sz D a e ch 64).1 : Nat) : Int)))) (qW S b (gOut n sz D a e ch 64))) := by
  have hA := hG.1
  have hP := hG.2.1
  have hM := hG.2.2.1
  have hUR := hG.2.2.2.2.2.2.2.1
  have hwf := hvC.1
  have hn10 := hwf.1
  have han : a < n := by rw [ha]; exact (ho.1 p (by omega)).1
  have hb58 := hA.1
  have hR1 := hA.2.1
  have hR2 := hA.2.2.1
  refine sIni (ls := [some (.ref 52), some (.int (iI ((a : Nat) : Int))), some (.int (iI ((e : Nat) : Int))), none, none, none, none]) rfl ?_
  refine sKi (p := 1) rfl rfl ?_
  refine sL (pc' := 2) (i := .istore_n 3) (ls' := [some (.ref 52), some (.int (iI ((a : Nat) : Int))), some (.int (iI ((e : Nat) : Int))), some (.int (iI 0)), none, none, none]) rfl rfl ?_
  refine sL (pc' := 3) (i := .iload_n 1) rfl rfl ?_
  refine sKb (p := 5) rfl rfl ?_
  refine sMu (p := 6) rfl rfl ?_
  refine sL (pc' := 8) (i := .istore 4) (ls' := [some (.ref 52), some (.int (iI ((a : Nat) : Int))), some (.int (iI ((e : Nat) : Int))), some (.int (iI 0)), some (.int (iI (((a : Nat) : Int) * 64))), none, none]) rfl rfl ?_
  rw [show ((a : Nat) : Int) * 64 = ((a * 64 + 0 : Nat) : Int) from by omega]
  refine sSh (T := qW S b (gOut n sz D a e ch 0)) (congrArg sH (qW_0 _ _ _).symm) ?_
  refine sIt (A := fun i => [some (.ref 52), some (.int (iI ((a : Nat) : Int))), some (.int (iI ((e : Nat) : Int))), some (.int (iI (((gOut n sz D a e ch i).1 : Nat) : Int))), some (.int (iI (((a * 64 + i : Nat) : Int)))), none, none]) (B := fun i => qW S b (gOut n sz D a e ch i)) (fun _ => True) 64 True.intro (fun i hi8 hI8 ih8 => ?_) (fun hI8 => ?_)
  · have hi8 := hi8
    have hcc := hC.1 (a * 64 + i) (by omega)
    have hq1 : (ch (a * 64 + i)).1 ≤ R := pigeon (fun k => (ch (a * 64 + i)).2 k) (fun k hk => by have := (hP.1 _ ((hcc.2 _).mp ⟨k, hk, rfl⟩).1).2.1; omega) (fun k l hk hl e => hcc.1.2.2.2 k l hk hl e)
    refine sL (pc' := 10) (i := .iload 4) rfl rfl ?_
    refine sL (pc' := 11) (i := .iload_n 1) rfl rfl ?_
    refine sKi (p := 12) rfl rfl ?_
    refine sAd (p := 13) rfl rfl ?_
    refine sKb (p := 15) rfl rfl ?_
    refine sMu (p := 16) rfl rfl ?_
    refine sIc_ge (p := 19) rfl rfl ⟨by omega, by omega⟩ ⟨by omega, by omega⟩ (fun c1 => ?_) (fun c1 => ?_)
    · exfalso; omega
    · have c1 := c1
      refine sL (pc' := 20) (i := .aload_n 0) rfl rfl ?_
      refine sGc (p := 23) rfl rfl (sk_52 _) rfl rfl rfl ?_
      refine sL (pc' := 25) (i := .iload 4) rfl rfl ?_
      refine sAi (p := 26) (i := a * 64 + i) rfl rfl (sk_55 _) (by omega) ⟨by omega, by omega⟩ ((qW_ne (by omega) _).trans hcc.1.1) ?_
      refine sL (pc' := 28) (i := .istore 5) (ls' := [some (.ref 52), some (.int (iI ((a : Nat) : Int))), some (.int (iI ((e : Nat) : Int))), some (.int (iI (((gOut n sz D a e ch i).1 : Nat) : Int))), some (.int (iI (((a * 64 + i : Nat) : Int)))), some (.int (iI (((ch (a * 64 + i)).2 0 : Nat) : Int))), none]) rfl rfl ?_
      refine sKi (p := 29) rfl rfl ?_
      refine sL (pc' := 31) (i := .istore 6) (ls' := [some (.ref 52), some (.int (iI ((a : Nat) : Int))), some (.int (iI ((e : Nat) : Int))), some (.int (iI (((gOut n sz D a e ch i).1 : Nat) : Int))), some (.int (iI (((a * 64 + i : Nat) : Int)))), some (.int (iI (((ch (a * 64 + i)).2 0 : Nat) : Int))), some (.int (iI 0))]) rfl rfl ?_
      refine sIt (A := fun m => [some (.ref 52), some (.int (iI ((a : Nat) : Int))), some (.int (iI ((e : Nat) : Int))), some (.int (iI (((gIn n sz D e (ch (a * 64 + i)) (gOut n sz D a e ch i) m).1 : Nat) : Int))), some (.int (iI (((a * 64 + i : Nat) : Int)))), some (.int (iI (((ch (a * 64 + i)).2 m : Nat) : Int))), some (.int (iI ((m : Nat) : Int)))]) (B := fun m => qW S b (gIn n sz D e (ch (a * 64 + i)) (gOut n sz D a e ch i) m)) (fun _ => True) ((ch (a * 64 + i)).1) True.intro (fun m hi31 hI31 ih31 => ?_) (fun hI31 => ?_)
      · have hi31 := hi31
        have hqm := (hcc.2 _).mp ⟨m, hi31, rfl⟩
        have hqU := hP.1 _ hqm.1
        have hqv : dv D ((ch (a * 64 + i)).2 m) = a := by
          have h1 := hqm.2
          unfold dch at h1
          have h2 := hc_lt (hsI (fun k => ((dk D ((ch (a * 64 + i)).2 m) k : Nat) : Int)) (sz (dv D ((ch (a * 64 + i)).2 m))))
          omega
        have hgl : (gIn n sz D e (ch (a * 64 + i)) (gOut n sz D a e ch i) m).1 < U := by
          have h1 := gOK_le hP (gOK_in (q := gOut n sz D a e ch i) hP hC han hi8 (gOK_out hP hC han (by omega)) (m := m) (by omega))
          have h2 := cntB_le (dl D) U
          have h3 := cnt_lt hP
          omega
        refine sL (pc' := 33) (i := .iload 5) rfl rfl ?_
        refine sIf_eq (p := 36) rfl rfl ⟨by omega, by omega⟩ (fun c2 => ?_) (fun c2 => ?_)
        · exfalso; omega
        · have c2 := c2
          refine sL (pc' := 38) (i := .iload 6) rfl rfl ?_
          refine sKl (p := 40) rfl rfl ?_
          refine sIc_ge (p := 43) rfl rfl ⟨by omega, by omega⟩ ⟨by omega, by omega⟩ (fun c3 => ?_) (fun c3 => ?_)
          · exfalso; omega
          · have c3 := c3
            refine sL (pc' := 44) (i := .aload_n 0) rfl rfl ?_
            refine sL (pc' := 46) (i := .iload 5) rfl rfl ?_
            refine sL (pc' := 47) (i := .iload_n 1) rfl rfl ?_
            refine sL (pc' := 48) (i := .iload_n 2) rfl rfl ?_
            refine sCv (p := 51) (as := [_, _, _]) rfl rfl rfl rfl (by decide) (Nat.le_of_ble_eq_true rfl) rfl (Nat.le_of_ble_eq_true rfl) (sk_52 _) rfl (by omega) (c_leadsToVariable (x := (ch (a * 64 + i)).2 m) (qW_vC hA.1 hvC) (dG_qW hG) ho hc hp ha he hqm.1 hqv) ?_
            refine sBe (p := 54) rfl rfl (fun c4 => ?_) (fun c4 => ?_)
            · have c4 := c4
              have hst : (gIn n sz D e (ch (a * 64 + i)) (gOut n sz D a e ch i) (m + 1)) = (gIn n sz D e (ch (a * 64 + i)) (gOut n sz D a e ch i) m) := by
                show (if dpT n sz (ds D ((ch (a * 64 + i)).2 m)) e then _ else _) = _
                rw [c4]
                rfl
              refine sL (pc' := 66) (i := .aload_n 0) rfl rfl ?_
              refine sGr (p := 69) rfl rfl (sk_52 _) rfl rfl rfl hA.2.2.2.2.2.1 ?_
              refine sL (pc' := 71) (i := .iload 5) rfl rfl ?_
              refine sAi (p := 72) (i := (ch (a * 64 + i)).2 m) rfl rfl hA.2.2.2.2.2.2.2.2.2.2.2.1 (by omega) ⟨by omega, by omega⟩ ((qW_ne (by omega) _).trans (hcc.1.2.1 m (by omega))) ?_
              refine sL (pc' := 74) (i := .istore 5) (ls' := [some (.ref 52), some (.int (iI ((a : Nat) : Int))), some (.int (iI ((e : Nat) : Int))), some (.int (iI (((gIn n sz D e (ch (a * 64 + i)) (gOut n sz D a e ch i) m).1 : Nat) : Int))), some (.int (iI (((a * 64 + i : Nat) : Int)))), some (.int (iI (((ch (a * 64 + i)).2 (m + 1) : Nat) : Int))), some (.int (iI ((m : Nat) : Int)))]) rfl rfl ?_
              refine sInX (z := ((m : Nat) : Int)) (ls' := [some (.ref 52), some (.int (iI ((a : Nat) : Int))), some (.int (iI ((e : Nat) : Int))), some (.int (iI (((gIn n sz D e (ch (a * 64 + i)) (gOut n sz D a e ch i) m).1 : Nat) : Int))), some (.int (iI (((a * 64 + i : Nat) : Int)))), some (.int (iI (((ch (a * 64 + i)).2 (m + 1) : Nat) : Int))), some (.int (iI (((m : Nat) : Int) + 1)))]) (p := 77) rfl rfl (Nat.le_of_ble_eq_true rfl) rfl rfl ?_
              refine sL (i := .goto (-46)) rfl rfl ?_
              refine sRo (ls := [some (.ref 52), some (.int (iI ((a : Nat) : Int))), some (.int (iI ((e : Nat) : Int))), some (.int (iI (((gIn n sz D e (ch (a * 64 + i)) (gOut n sz D a e ch i) (m + 1)).1 : Nat) : Int))), some (.int (iI (((a * 64 + i : Nat) : Int)))), some (.int (iI (((ch (a * 64 + i)).2 (m + 1) : Nat) : Int))), some (.int (iI ((m + 1 : Nat) : Int)))]) (T := qW S b (gIn n sz D e (ch (a * 64 + i)) (gOut n sz D a e ch i) (m + 1))) (And.intro rfl (And.intro rfl (And.intro rfl (And.intro (congrArg (fun z => some (Value.int z)) (congrArg iI (by rw [hst]))) (And.intro rfl (And.intro rfl (And.intro rfl (True.intro)))))))) (congrArg sH (by rw [hst])) (ih31 ?_)
              exact True.intro
            · have c4 := c4
              have hst : (gIn n sz D e (ch (a * 64 + i)) (gOut n sz D a e ch i) (m + 1)) = ((gIn n sz D e (ch (a * 64 + i)) (gOut n sz D a e ch i) m).1 + 1, fup (gIn n sz D e (ch (a * 64 + i)) (gOut n sz D a e ch i) m).2 (gIn n sz D e (ch (a * 64 + i)) (gOut n sz D a e ch i) m).1 ((ch (a * 64 + i)).2 m)) := by
                show (if dpT n sz (ds D ((ch (a * 64 + i)).2 m)) e then _ else _) = _
                rw [c4]
                rfl
              refine sL (pc' := 55) (i := .aload_n 0) rfl rfl ?_
              refine sGr (p := 58) rfl rfl (sk_52 _) rfl rfl rfl hA.2.2.2.2.2.2.2.1 ?_
              refine sL (pc' := 59) (i := .iload_n 3) rfl rfl ?_
              refine sL (pc' := 61) (i := .iload 5) rfl rfl ?_
              refine sWi (p := 62) (i := (gIn n sz D e (ch (a * 64 + i)) (gOut n sz D a e ch i) m).1) rfl rfl hA.2.2.2.2.2.2.2.2.2.2.2.2.2.1 (by omega) ⟨by omega, by omega⟩ ?_
              refine sInX (z := (((gIn n sz D e (ch (a * 64 + i)) (gOut n sz D a e ch i) m).1 : Nat) : Int)) (ls' := [some (.ref 52), some (.int (iI ((a : Nat) : Int))), some (.int (iI ((e : Nat) : Int))), some (.int (iI ((((gIn n sz D e (ch (a * 64 + i)) (gOut n sz D a e ch i) m).1 : Nat) : Int) + 1))), some (.int (iI (((a * 64 + i : Nat) : Int)))), some (.int (iI (((ch (a * 64 + i)).2 m : Nat) : Int))), some (.int (iI ((m : Nat) : Int)))]) (p := 65) rfl rfl (Nat.le_of_ble_eq_true rfl) rfl rfl ?_
              refine sL (pc' := 66) (i := .aload_n 0) rfl rfl ?_
              refine sGr (p := 69) rfl rfl (sk_52 _) rfl rfl rfl hA.2.2.2.2.2.1 ?_
              refine sL (pc' := 71) (i := .iload 5) rfl rfl ?_
              refine sAi (p := 72) (i := (ch (a * 64 + i)).2 m) rfl rfl hA.2.2.2.2.2.2.2.2.2.2.2.1 (by omega) ⟨by omega, by omega⟩ (((rI_ne (by omega) _).trans (qW_ne (by omega) _)).trans (hcc.1.2.1 m (by omega))) ?_
              refine sL (pc' := 74) (i := .istore 5) (ls' := [some (.ref 52), some (.int (iI ((a : Nat) : Int))), some (.int (iI ((e : Nat) : Int))), some (.int (iI ((((gIn n sz D e (ch (a * 64 + i)) (gOut n sz D a e ch i) m).1 : Nat) : Int) + 1))), some (.int (iI (((a * 64 + i : Nat) : Int)))), some (.int (iI (((ch (a * 64 + i)).2 (m + 1) : Nat) : Int))), some (.int (iI ((m : Nat) : Int)))]) rfl rfl ?_
              refine sInX (z := ((m : Nat) : Int)) (ls' := [some (.ref 52), some (.int (iI ((a : Nat) : Int))), some (.int (iI ((e : Nat) : Int))), some (.int (iI ((((gIn n sz D e (ch (a * 64 + i)) (gOut n sz D a e ch i) m).1 : Nat) : Int) + 1))), some (.int (iI (((a * 64 + i : Nat) : Int)))), some (.int (iI (((ch (a * 64 + i)).2 (m + 1) : Nat) : Int))), some (.int (iI (((m : Nat) : Int) + 1)))]) (p := 77) rfl rfl (Nat.le_of_ble_eq_true rfl) rfl rfl ?_
              refine sL (i := .goto (-46)) rfl rfl ?_
              refine sRo (ls := [some (.ref 52), some (.int (iI ((a : Nat) : Int))), some (.int (iI ((e : Nat) : Int))), some (.int (iI (((gIn n sz D e (ch (a * 64 + i)) (gOut n sz D a e ch i) (m + 1)).1 : Nat) : Int))), some (.int (iI (((a * 64 + i : Nat) : Int)))), some (.int (iI (((ch (a * 64 + i)).2 (m + 1) : Nat) : Int))), some (.int (iI ((m + 1 : Nat) : Int)))]) (T := qW S b (gIn n sz D e (ch (a * 64 + i)) (gOut n sz D a e ch i) (m + 1))) (And.intro rfl (And.intro rfl (And.intro rfl (And.intro (congrArg (fun z => some (Value.int z)) (congrArg iI (by rw [hst]; rfl))) (And.intro rfl (And.intro rfl (And.intro rfl (True.intro)))))))) (congrArg sH (by rw [hst]; exact qW_s)) (ih31 ?_)
              exact True.intro
      · have hI31 := hI31
        have hq0 := hcc.1.2.2.1
        refine sL (pc' := 33) (i := .iload 5) rfl rfl ?_
        refine sIf_eq (p := 36) rfl rfl ⟨by omega, by omega⟩ (fun c5 => ?_) (fun c5 => ?_)
        · have c5 := c5
          refine sInX (z := (((a * 64 + i : Nat) : Int))) (ls' := [some (.ref 52), some (.int (iI ((a : Nat) : Int))), some (.int (iI ((e : Nat) : Int))), some (.int (iI (((gIn n sz D e (ch (a * 64 + i)) (gOut n sz D a e ch i) ((ch (a * 64 + i)).1)).1 : Nat) : Int))), some (.int (iI ((((a * 64 + i : Nat) : Int)) + 1))), some (.int (iI (((ch (a * 64 + i)).2 ((ch (a * 64 + i)).1) : Nat) : Int))), some (.int (iI (((ch (a * 64 + i)).1 : Nat) : Int)))]) (p := 83) rfl rfl (Nat.le_of_ble_eq_true rfl) rfl rfl ?_
          refine sL (i := .goto (-75)) rfl rfl ?_
          refine sRo (ls := [some (.ref 52), some (.int (iI ((a : Nat) : Int))), some (.int (iI ((e : Nat) : Int))), some (.int (iI (((gOut n sz D a e ch (i + 1)).1 : Nat) : Int))), some (.int (iI (((a * 64 + i + 1 : Nat) : Int)))), none, none]) (T := qW S b (gOut n sz D a e ch (i + 1))) (And.intro rfl (And.intro rfl (And.intro rfl (And.intro rfl (And.intro (congrArg (fun z => some (Value.int z)) (congrArg iI (by omega))) (True.intro)))))) (rfl) (ih8 ?_)
          exact True.intro
        · exfalso; omega
  · have hI8 := hI8
    refine sL (pc' := 10) (i := .iload 4) rfl rfl ?_
    refine sL (pc' := 11) (i := .iload_n 1) rfl rfl ?_
    refine sKi (p := 12) rfl rfl ?_
    refine sAd (p := 13) rfl rfl ?_
    refine sKb (p := 15) rfl rfl ?_
    refine sMu (p := 16) rfl rfl ?_
    refine sIc_ge (p := 19) rfl rfl ⟨by omega, by omega⟩ ⟨by omega, by omega⟩ (fun c6 => ?_) (fun c6 => ?_)
    · have c6 := c6
      refine sL (pc' := 87) (i := .iload_n 3) rfl rfl ?_
      refine sEn (i := .ireturn) rfl (rfl) ?_
      exact ⟨rfl, rfl⟩
    · exfalso; omega
end DW
