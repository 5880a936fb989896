/-! ===== the diagram: a node is turned ===== -/
def frT (b : Nat) (S S' : ST) : Prop := S'.1 = S.1 ∧ SR S' = SR S ∧ SL S' = SL S ∧ (∀ c, c ≠ 52 → c ≠ 55 → c ≠ 56 → c ≠ 57 → c ≠ b → c ≠ b + 1 → c ≠ b + 2 → c ≠ b + 5 → SI S' c = SI S c)
theorem frT_refl (b : Nat) (S : ST) : frT b S S := ⟨rfl, rfl, rfl, fun _ _ _ _ _ _ _ _ _ => rfl⟩
theorem frT_trans {b : Nat} {A B C : ST} (h : frT b A B) (k : frT b B C) : frT b A C := ⟨k.1.trans h.1, k.2.1.trans h.2.1, k.2.2.1.trans h.2.2.1, fun c h1 h2 h3 h4 h5 h6 h7 h8 => (k.2.2.2 c h1 h2 h3 h4 h5 h6 h7 h8).trans (h.2.2.2 c h1 h2 h3 h4 h5 h6 h7 h8)⟩
theorem frT_O {b : Nat} {S S' : ST} (h : frO b S S') : frT b S S' := ⟨h.1, h.2.1, h.2.2.1, fun c h1 h2 _ _ h5 h6 h7 h8 => h.2.2.2 c h1 h2 h5 h6 h7 h8⟩
theorem frT_wI {b : Nat} {S : ST} {a i : Nat} {z : Int} (h : a = 52 ∨ a = 55 ∨ a = 56 ∨ a = 57 ∨ a = b ∨ a = b + 1 ∨ a = b + 2 ∨ a = b + 5) : frT b S (wI S a i z) := ⟨rfl, rfl, rfl, fun c h1 h2 h3 h4 h5 h6 h7 h8 => u2_ne (by omega)⟩
theorem frT_vC {b n : Nat} {sz : Nat → Nat} {S S' : ST} (h : frT b S S') (hb : b = 58 ∨ 203 ≤ b) (hv : vC S n sz) : vC S' n sz := by
  obtain ⟨h1, h2, h3, h4, h5⟩ := hv
  have hq := h.2.2.2
  refine ⟨h1, ?_, ?_, ?_, ?_⟩
  · rw [hq 1 (by omega) (by omega) (by omega) (by omega) (by omega) (by omega) (by omega) (by omega)]
    exact h2
  · rw [hq 1 (by omega) (by omega) (by omega) (by omega) (by omega) (by omega) (by omega) (by omega)]
    exact h3
  · rw [hq 2 (by omega) (by omega) (by omega) (by omega) (by omega) (by omega) (by omega) (by omega)]
    exact h4
  · rw [hq 3 (by omega) (by omega) (by omega) (by omega) (by omega) (by omega) (by omega) (by omega)]
    exact h5
theorem cof_comm {n : Nat} {sz : Nat → Nat} (hw : wf n sz) {a e j k : Nat} (ha : a < n) (he : e < n) (hae : a ≠ e) (hj : j < sz a) (hk : k < sz e) (g : Nat → Bool) : cof n sz (cof n sz g a j) e k = cof n sz (cof n sz g e k) a j := tb_ext (cof_tb _ _ _ _ _) (cof_tb _ _ _ _ _) (fun r hr => by
  rw [cof_at hr, cof_at (chg_lt hw he hk hr), cof_at hr, cof_at (chg_lt hw ha hj hr), chg_comm hw he ha hk hj (Ne.symm hae) hr])
theorem edg_le {n U : Nat} {sz : Nat → Nat} {D : DT} {out : Nat} (hw : wf n sz) (hP : dP n sz D out U) (z : Nat) : edg sz D U z ≤ 6 * U := by
  have key : ∀ N, sumN (fun x => if dl D x then cntB (fun k => decide (dk D x k = z)) (sz (dv D x)) else 0) N ≤ 6 * N := by
    intro N
    induction N with
    | zero => exact Nat.le_refl _
    | succ N ih =>
      show sumN _ N + (if dl D N then cntB (fun k => decide (dk D N k = z)) (sz (dv D N)) else 0) ≤ _
      have h : (if dl D N then cntB (fun k => decide (dk D N k = z)) (sz (dv D N)) else 0) ≤ 6 := by
        cases hd : dl D N with
        | false => exact Nat.zero_le _
        | true =>
          rw [if_pos rfl]
          have h1 := cntB_le (fun k => decide (dk D N k = z)) (sz (dv D N))
          have h2 := hw.2.1 _ (hP.2.2.1 N hd).1
          omega
      omega
  exact key U
/-- the kids of what a turned node leads to -/
def wn (D : DT) (y : Nat → Nat) (e k j : Nat) : Nat := if dl D (y j) = true ∧ dv D (y j) = e then dk D (y j) k else y j
def wW (S : ST) (w : Nat → Nat) (i : Nat) : ST := wIA S 56 (fun j => if j < i then ((w j : Nat) : Int) else SI S 56 j)
theorem wW_0 (S : ST) (w : Nat → Nat) : wW S w 0 = S := wIA_0 (fun k => (if_neg (Nat.not_lt_zero k)).symm)
theorem wW_s {S : ST} {w : Nat → Nat} {i x : Nat} (h : x = w i) : wI (wW S w i) 56 i ((x : Nat) : Int) = wW S w (i + 1) := wI_wIA (fun k => by
  by_cases c : k = i
  · rw [if_pos c, if_pos (by omega), c, h]
  · rw [if_neg c]
    by_cases c2 : k < i
    · rw [if_pos c2, if_pos (by omega)]
    · rw [if_neg c2, if_neg (by omega)])
theorem wW_ne {S : ST} {w : Nat → Nat} {i c : Nat} (h : c ≠ 56) (j : Nat) : SI (wW S w i) c j = SI S c j := rA_ne h j
theorem wW_at {S : ST} {w : Nat → Nat} {i j : Nat} (h : j < i) : SI (wW S w i) 56 j = ((w j : Nat) : Int) := rA_at.trans (if_pos h)
theorem frT_wW {b : Nat} {S : ST} {w : Nat → Nat} {i : Nat} : frT b S (wW S w i) := ⟨rfl, rfl, rfl, fun c _ _ h _ _ _ _ _ => funext fun j => wW_ne h j⟩
section DU
variable {X : List Int32} {S : ST} {b R n U nd a e k p : Nat} {sz ord pl : Nat → Nat} {D : DT} {ex : Nat → Nat} {y : Nat → Nat} {G : Nat → Bool}
theorem dG_wW {out i : Nat} {w : Nat → Nat} (h : dG S b R n sz D ex out U) : dG (wW S w i) b R n sz D ex out U := by
  have hb := h.1.1
  exact dG_cg (S := S) rfl rfl (funext fun j => wW_ne (by omega) j) (funext fun j => wW_ne (by omega) j) (funext fun j => wW_ne (by omega) j) (funext fun j => wW_ne (by omega) j) (funext fun j => wW_ne (by omega) j) (funext fun j => wW_ne (by omega) j) (funext fun j => wW_ne (by omega) j) h
theorem c_turnedKid (hvC : vC S n sz) (hG : dG S b R n sz D ex nd U) (hnd : nd < R) (ha : a < n) (he : e < n) (hae : a ≠ e) (hk : k < sz e) (hy : ∀ j, j < sz a → SI S (b + 5) (nd * 6 + j) = ((y j : Nat) : Int) ∧ dok D nd (y j) ∧ y j ≠ nd ∧ ds D (y j) = cof n sz G a j) (hye : ∀ j, j < sz a → ¬ (dl D (y j) = true ∧ dv D (y j) = e) → dpT n sz (ds D (y j)) e = false) (hun : dpT n sz (cof n sz G e k) a = true → ∀ x, dok D nd x → ds D x = cof n sz G e k → dl D x = true ∧ dv D x = a) (hrm : cntB (dl D) U + o1 nd + 2 < R) : sM X 2 45 [.ref 52, .int (iI ((nd * 6 : Nat) : Int)), .int (iI ((a : Nat) : Int)), .int (iI ((e : Nat) : Int)), .int (iI ((k : Nat) : Int))] S (nQ (wW S (wn D y e k) (sz a)) b R n sz D ex nd U a (wn D y e k) (cof n sz G e k)) := by
  have hA := hG.1
  have hP := hG.2.1
  have hM := hG.2.2.1
  have hUR := hG.2.2.2.2.2.2.2.1
  have hU2 := hG.2.2.2.2.2.2.2.2.1
  have hwf := hvC.1
  have hn10 := hwf.1
  have hsa := hwf.2.1 a ha
  have hse := hwf.2.1 e he
  have hwk : ∀ j, j < sz a → dok D nd (wn D y e k j) ∧ ds D (wn D y e k j) = cof n sz (cof n sz G e k) a j := fun j hj => by
    obtain ⟨h1, h2, h3, h4⟩ := hy j hj
    rw [← cof_comm hwf ha he hae hj hk, ← h4]
    unfold wn
    by_cases c : dl D (y j) = true ∧ dv D (y j) = e
    · rw [if_pos c]
      have h5 := hP.2.2.2.1 _ c.1 k (by rw [c.2]; exact hk)
      rw [c.2] at h5
      exact h5
    · rw [if_neg c, cof_no hwf he hk (by rw [h4]; exact cof_tb _ _ _ _ _) (hye j hj c)]
      exact ⟨h2, rfl⟩
  have hb58 := hA.1
  have hR1 := hA.2.1
  have hR2 := hA.2.2.1
  refine sIni (ls := [some (.ref 52), some (.int (iI (((nd * 6 : Nat) : Int)))), some (.int (iI ((a : Nat) : Int))), some (.int (iI ((e : Nat) : Int))), some (.int (iI ((k : Nat) : Int))), none, none]) rfl ?_
  refine sKi (p := 1) rfl rfl ?_
  refine sL (pc' := 3) (i := .istore 5) (ls' := [some (.ref 52), some (.int (iI (((nd * 6 : Nat) : Int)))), some (.int (iI ((a : Nat) : Int))), some (.int (iI ((e : Nat) : Int))), some (.int (iI ((k : Nat) : Int))), some (.int (iI 0)), none]) rfl rfl ?_
  refine sSh (T := wW S (wn D y e k) 0) (congrArg sH (wW_0 _ _).symm) ?_
  refine sIt (A := fun i => [some (.ref 52), some (.int (iI (((nd * 6 : Nat) : Int)))), some (.int (iI ((a : Nat) : Int))), some (.int (iI ((e : Nat) : Int))), some (.int (iI ((k : Nat) : Int))), some (.int (iI ((i : Nat) : Int))), none]) (B := fun i => wW S (wn D y e k) i) (fun _ => True) (sz a) True.intro (fun i hi3 hI3 ih3 => ?_) (fun hI3 => ?_)
  · have hi3 := hi3
    have hyi := hy i hi3
    have hyU := dok_lt hP hU2 hyi.2.1
    have hvr : rg (SI S b (y i)) := by
      rcases hyi.2.1 with h | h | h
      · have h0 : y i = 0 ∨ y i = 1 := by omega
        rcases h0 with h0 | h0
        · rw [h0, hM.2.1]; exact ⟨by omega, by omega⟩
        · rw [h0, hM.2.2.1]; exact ⟨by omega, by omega⟩
      · rw [hM.1 _ h]
        have := (hP.2.2.1 _ h).1
        exact ⟨by omega, by omega⟩
      · exact absurd h hyi.2.2.1
    refine sL (pc' := 5) (i := .iload 5) rfl rfl ?_
    refine sL (pc' := 6) (i := .aload_n 0) rfl rfl ?_
    refine sGc (p := 9) rfl rfl (sk_52 _) rfl rfl rfl ?_
    refine sL (pc' := 10) (i := .iload_n 2) rfl rfl ?_
    refine sCv (p := 13) (as := [_]) rfl rfl rfl rfl (by decide) (Nat.le_of_ble_eq_true rfl) rfl (Nat.le_of_ble_eq_true rfl) (sk_1 _) rfl (by omega) (c_siz (S := wW S (wn D y e k) i) (frT_vC (b := b) frT_wW hA.1 hvC) ha) ?_
    refine sIc_ge (p := 16) rfl rfl ⟨by omega, by omega⟩ ⟨by omega, by omega⟩ (fun c1 => ?_) (fun c1 => ?_)
    · exfalso; omega
    · have c1 := c1
      refine sL (pc' := 17) (i := .aload_n 0) rfl rfl ?_
      refine sGr (p := 20) rfl rfl (sk_52 _) rfl rfl rfl hA.2.2.2.2.2.2.2.2.1 ?_
      refine sL (pc' := 21) (i := .iload_n 1) rfl rfl ?_
      refine sL (pc' := 23) (i := .iload 5) rfl rfl ?_
      refine sAd (p := 24) rfl rfl ?_
      refine sAi (p := 25) (i := (nd * 6) + i) rfl rfl hA.2.2.2.2.2.2.2.2.2.2.2.2.2.2 (by omega) ⟨by omega, by omega⟩ ((wW_ne (by omega) _).trans (hy i (by omega)).1) ?_
      refine sL (pc' := 27) (i := .istore 6) (ls' := [some (.ref 52), some (.int (iI (((nd * 6 : Nat) : Int)))), some (.int (iI ((a : Nat) : Int))), some (.int (iI ((e : Nat) : Int))), some (.int (iI ((k : Nat) : Int))), some (.int (iI ((i : Nat) : Int))), some (.int (iI ((y i : Nat) : Int)))]) rfl rfl ?_
      refine sL (pc' := 28) (i := .aload_n 0) rfl rfl ?_
      refine sGc (p := 31) rfl rfl (sk_52 _) rfl rfl rfl ?_
      refine sL (pc' := 33) (i := .iload 5) rfl rfl ?_
      refine sL (pc' := 34) (i := .aload_n 0) rfl rfl ?_
      refine sGr (p := 37) rfl rfl (sk_52 _) rfl rfl rfl hA.2.2.2.1 ?_
      refine sL (pc' := 39) (i := .iload 6) rfl rfl ?_
      refine sAi (p := 40) (i := y i) rfl rfl hA.2.2.2.2.2.2.2.2.2.1 (by omega) ⟨by omega, by omega⟩ (wW_ne (by omega) _) ?_
      refine sL (pc' := 41) (i := .iload_n 3) rfl rfl ?_
      refine sIc_ne (p := 44) rfl rfl hvr ⟨by omega, by omega⟩ (fun c2 => ?_) (fun c2 => ?_)
      · have c2 := c2
        have hwi : y i = wn D y e k i := by
          unfold wn
          rw [if_neg (fun h => c2 (by rw [hM.1 _ h.1, h.2]))]
        refine sL (pc' := 62) (i := .iload 6) rfl rfl ?_
        refine sWi (p := 63) (i := i) rfl rfl (sk_56 _) (by omega) ⟨by omega, by omega⟩ ?_
        refine sInX (z := ((i : Nat) : Int)) (ls' := [some (.ref 52), some (.int (iI (((nd * 6 : Nat) : Int)))), some (.int (iI ((a : Nat) : Int))), some (.int (iI ((e : Nat) : Int))), some (.int (iI ((k : Nat) : Int))), some (.int (iI (((i : Nat) : Int) + 1))), some (.int (iI ((y i : Nat) : Int)))]) (p := 66) rfl rfl (Nat.le_of_ble_eq_true rfl) rfl rfl ?_
        refine sL (i := .goto (-63)) rfl rfl ?_
        refine sRo (ls := [some (.ref 52), some (.int (iI (((nd * 6 : Nat) : Int)))), some (.int (iI ((a : Nat) : Int))), some (.int (iI ((e : Nat) : Int))), some (.int (iI ((k : Nat) : Int))), some (.int (iI ((i + 1 : Nat) : Int))), none]) (T := wW S (wn D y e k) (i + 1)) (And.intro rfl (And.intro rfl (And.intro rfl (And.intro rfl (And.intro rfl (And.intro rfl (True.intro))))))) (congrArg sH (wW_s hwi)) (ih3 ?_)
        exact True.intro
      · have c2 := c2
        have hyd : dl D (y i) = true ∧ dv D (y i) = e := by
          rcases hyi.2.1 with h | h | h
          · have h0 : y i = 0 ∨ y i = 1 := by omega
            have h1 := hM.2.1
            have h2 := hM.2.2.1
            rcases h0 with h0 | h0 <;> (rw [h0] at c2; omega)
          · rw [hM.1 _ h] at c2
            exact ⟨h, by omega⟩
          · exact absurd h hyi.2.2.1
        have hwi : dk D (y i) k = wn D y e k i := by
          unfold wn
          rw [if_pos hyd]
        refine sL (pc' := 45) (i := .aload_n 0) rfl rfl ?_
        refine sGr (p := 48) rfl rfl (sk_52 _) rfl rfl rfl hA.2.2.2.2.2.2.2.2.1 ?_
        refine sL (pc' := 50) (i := .iload 6) rfl rfl ?_
        refine sKb (p := 52) rfl rfl ?_
        refine sMu (p := 53) rfl rfl ?_
        refine sL (pc' := 55) (i := .iload 4) rfl rfl ?_
        refine sAd (p := 56) rfl rfl ?_
        refine sAi (p := 57) (i := ((y i) * 6) + k) rfl rfl hA.2.2.2.2.2.2.2.2.2.2.2.2.2.2 (by omega) ⟨by omega, by omega⟩ ((wW_ne (by omega) _).trans (hM.2.2.2.1 _ hyd.1 k (by rw [hyd.2]; exact hk))) ?_
        refine sL (i := .goto 5) rfl rfl ?_
        refine sWi (p := 63) (i := i) rfl rfl (sk_56 _) (by omega) ⟨by omega, by omega⟩ ?_
        refine sInX (z := ((i : Nat) : Int)) (ls' := [some (.ref 52), some (.int (iI (((nd * 6 : Nat) : Int)))), some (.int (iI ((a : Nat) : Int))), some (.int (iI ((e : Nat) : Int))), some (.int (iI ((k : Nat) : Int))), some (.int (iI (((i : Nat) : Int) + 1))), some (.int (iI ((y i : Nat) : Int)))]) (p := 66) rfl rfl (Nat.le_of_ble_eq_true rfl) rfl rfl ?_
        refine sL (i := .goto (-63)) rfl rfl ?_
        refine sRo (ls := [some (.ref 52), some (.int (iI (((nd * 6 : Nat) : Int)))), some (.int (iI ((a : Nat) : Int))), some (.int (iI ((e : Nat) : Int))), some (.int (iI ((k : Nat) : Int))), some (.int (iI ((i + 1 : Nat) : Int))), none]) (T := wW S (wn D y e k) (i + 1)) (And.intro rfl (And.intro rfl (And.intro rfl (And.intro rfl (And.intro rfl (And.intro rfl (True.intro))))))) (congrArg sH (wW_s hwi)) (ih3 ?_)
        exact True.intro
  · have hI3 := hI3
    refine sL (pc' := 5) (i := .iload 5) rfl rfl ?_
    refine sL (pc' := 6) (i := .aload_n 0) rfl rfl ?_
    refine sGc (p := 9) rfl rfl (sk_52 _) rfl rfl rfl ?_
    refine sL (pc' := 10) (i := .iload_n 2) rfl rfl ?_
    refine sCv (p := 13) (as := [_]) rfl rfl rfl rfl (by decide) (Nat.le_of_ble_eq_true rfl) rfl (Nat.le_of_ble_eq_true rfl) (sk_1 _) rfl (by omega) (c_siz (S := wW S (wn D y e k) (sz a)) (frT_vC (b := b) frT_wW hA.1 hvC) ha) ?_
    refine sIc_ge (p := 16) rfl rfl ⟨by omega, by omega⟩ ⟨by omega, by omega⟩ (fun c3 => ?_) (fun c3 => ?_)
    · have c3 := c3
      refine sL (pc' := 70) (i := .aload_n 0) rfl rfl ?_
      refine sL (pc' := 71) (i := .iload_n 2) rfl rfl ?_
      refine sKi (p := 72) rfl rfl ?_
      refine sCvQ (p := 75) (as := [_, _]) rfl rfl rfl rfl (by decide) (Nat.le_of_ble_eq_true rfl) rfl (Nat.le_of_ble_eq_true rfl) (sk_52 _) rfl (by omega) (c_nodeOf (v := a) (o := 0) (w := wn D y e k) (g := cof n sz G e k) (frT_vC (b := b) frT_wW hA.1 hvC) (dG_wW hG) ha (by omega) (fun j hj => by rw [Nat.zero_add]; exact wW_at hj) hwk (cof_tb _ _ _ _ _) hun hrm) ?_
      rintro _ Sn ⟨t, D2, U2, rfl, hrest⟩
      refine sEn (i := .ireturn) rfl (rfl) ?_
      exact ⟨t, D2, U2, rfl, hrest⟩
    · exfalso; omega
/-- two neighbours of an order change places -/
def swp (ord : Nat → Nat) (p : Nat) : Nat → Nat := fun q => if q = p then ord (p + 1) else if q = p + 1 then ord p else ord q
def swl (ord pl : Nat → Nat) (p : Nat) : Nat → Nat := fun v => if v = ord (p + 1) then p else if v = ord p then p + 1 else pl v
theorem swp_p : swp ord p p = ord (p + 1) := if_pos rfl
theorem swp_s : swp ord p (p + 1) = ord p := (if_neg (by omega)).trans (if_pos rfl)
theorem swp_n {q : Nat} (h1 : q ≠ p) (h2 : q ≠ p + 1) : swp ord p q = ord q := (if_neg h1).trans (if_neg h2)
theorem swp_prm (ho : prm n ord pl) (hp : p + 1 < n) : prm n (swp ord p) (swl ord pl p) := by
  have h1 := ho.1 p (by omega)
  have h2 := ho.1 (p + 1) hp
  have hne : ord p ≠ ord (p + 1) := ord_ne ho (by omega) hp (by omega)
  refine ⟨fun q hq => ?_, fun v hv => ?_⟩
  · by_cases c1 : q = p
    · rw [c1, swp_p]
      exact ⟨h2.1, if_pos rfl⟩
    · by_cases c2 : q = p + 1
      · rw [c2, swp_s]
        exact ⟨h1.1, (if_neg hne).trans (if_pos rfl)⟩
      · rw [swp_n c1 c2]
        have h3 := ho.1 q hq
        exact ⟨h3.1, (if_neg (ord_ne ho hq hp c2)).trans ((if_neg (ord_ne ho hq (by omega) c1)).trans h3.2)⟩
  · unfold swl
    have h3 := ho.2 v hv
    by_cases c1 : v = ord (p + 1)
    · rw [if_pos c1, swp_p]
      exact ⟨by omega, c1.symm⟩
    · rw [if_neg c1]
      by_cases c2 : v = ord p
      · rw [if_pos c2, swp_s]
        exact ⟨hp, c2.symm⟩
      · rw [if_neg c2]
        refine ⟨h3.1, ?_⟩
        rw [swp_n (fun z => c2 (by rw [← z]; exact h3.2.symm)) (fun z => c1 (by rw [← z]; exact h3.2.symm))]
        exact h3.2
/-- nodes that wait for their turn -/
def pdF (n : Nat) (sz ord : Nat → Nat) (D : DT) (a e p : Nat) (Pd : Nat → Prop) : Prop := ∀ x, Pd x → dl D x = true ∧ dv D x = a ∧ dpT n sz (ds D x) e = true ∧ ∀ q, q < p → dpT n sz (ds D x) (ord q) = false
def mxO (n : Nat) (sz ord : Nat → Nat) (D : DT) (p : Nat) (Pd : Nat → Prop) : Prop := ∀ x, dl D x = true → Pd x ∨ dv D x = swp ord p (fpl n sz (swp ord p) (ds D x))
def uO (sz : Nat → Nat) (D : DT) (out U : Nat) (ex : Nat → Nat) : Prop := ∀ x, 2 ≤ x → dok D out x → 0 < edg sz D U x + ex x
def tQ (S : ST) (b R n : Nat) (sz ord : Nat → Nat) (D : DT) (ex : Nat → Nat) (U p nd : Nat) (Pd : Nat → Prop) (r : Option Value) (S' : ST) : Prop := r = none ∧ ∃ D' U', dG S' b R n sz D' ex 0 U' ∧ (∀ x, dok D 0 x → ds D' x = ds D x) ∧ mxO n sz ord D' p (fun x => Pd x ∧ x ≠ nd) ∧ (∀ x, Pd x → x ≠ nd → dl D' x = true ∧ dv D' x = dv D x) ∧ uO sz D' 0 U' ex ∧ cntB (dl D') U' ≤ cntB (dl D) U + 6 ∧ frT b S S'
theorem fpl_sw {g : Nat → Bool} (hp : p + 1 < n) (h1 : ∀ q, q < p → dpT n sz g (ord q) = false) (h2 : dpT n sz g (ord (p + 1)) = true) : fpl n sz (swp ord p) g = p := fpl_eq (by omega) (by rw [swp_p]; exact h2) (fun q hq => by rw [swp_n (by omega) (by omega)]; exact h1 q hq)
theorem fpl_sw2 {g : Nat → Bool} (hp : p + 1 < n) (h1 : ∀ q, q < p → dpT n sz g (ord q) = false) (h2 : dpT n sz g (ord (p + 1)) = false) (h3 : dpT n sz g (ord p) = true) : fpl n sz (swp ord p) g = p + 1 := fpl_eq hp (by rw [swp_s]; exact h3) (fun q hq => by
  by_cases c : q = p
  · rw [c, swp_p]
    exact h2
  · rw [swp_n c (by omega)]
    exact h1 q (by omega))
theorem cntB_sh {y : Nat → Nat} {j m z : Nat} : cntB (fun i => decide (y (i + j) = z)) (m + 1) = (if y j = z then 1 else 0) + cntB (fun i => decide (y (i + (j + 1)) = z)) m := by
  rw [cntB_shift]
  congr 1
  · rw [Nat.zero_add]
    by_cases c : y j = z
    · rw [decide_eq_true c, if_pos rfl, if_pos c]
    · rw [decide_eq_false c, if_neg (by decide), if_neg c]
  · exact cntB_cg (fun i _ => by rw [show i + 1 + j = i + (j + 1) from by omega])
def exT (ex1 : Nat → Nat) (t : Nat → Nat) (k : Nat) : Nat → Nat := fun z => ex1 z + cntB (fun j => decide (t j = z)) k
def exR (ex : Nat → Nat) (y t : Nat → Nat) (sa se j : Nat) : Nat → Nat := fun z => ex z + cntB (fun i => decide (y (i + j) = z)) (sa - j) + cntB (fun k => decide (t k = z)) se
theorem exR_s {t : Nat → Nat} {sa se j : Nat} (hj : j < sa) : exS (exR ex y t sa se j) (y j) = exR ex y t sa se (j + 1) := funext fun z => by
  unfold exS exR
  rw [show sa - j = (sa - (j + 1)) + 1 from by omega, cntB_sh]
  by_cases c : y j = z
  · rw [if_pos c, if_pos c.symm]
    omega
  · rw [if_neg c, if_neg (fun h => c h.symm)]
    omega
theorem exR_y {t : Nat → Nat} {sa se j : Nat} (hj : j < sa) : 0 < exR ex y t sa se j (y j) := by
  unfold exR
  rw [show sa - j = (sa - (j + 1)) + 1 from by omega, cntB_sh, if_pos rfl]
  omega
theorem cnt_t {t : Nat → Nat} {se k : Nat} (hk : k < se) : 0 < cntB (fun k' => decide (t k' = t k)) se := (cntB_any _ _).mpr (anyB_iff.mpr ⟨k, hk, decide_eq_true rfl⟩)
end DU
