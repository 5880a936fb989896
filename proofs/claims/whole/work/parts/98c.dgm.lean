/-! ===== chains and diagrams: what a change does ===== -/
def delQ (q : CQ) (j : Nat) : CQ := (q.1 - 1, fun i => if i < j then q.2 i else q.2 (i + 1))
def addQ (q : CQ) (y : Nat) : CQ := (q.1 + 1, fun i => if i = 0 then y else q.2 (i - 1))
theorem lk_del {N N' : Nat → Int} {s s' : Int} {q : CQ} {j : Nat} (h : lk N s q) (hj : j < q.1) (h0 : s' = if j = 0 then ((q.2 1 : Nat) : Int) else ((q.2 0 : Nat) : Int)) (hN : ∀ i, i < q.1 → i ≠ j → N' (q.2 i) = if i + 1 = j then ((q.2 (j + 1) : Nat) : Int) else ((q.2 (i + 1) : Nat) : Int)) : lk N' s' (delQ q j) := by
  obtain ⟨h1, h2, h3, h4⟩ := h
  refine ⟨?_, fun i hi => ?_, ?_, fun i k hi hk e => ?_⟩
  · rw [h0]
    show _ = (((if 0 < j then q.2 0 else q.2 (0 + 1)) : Nat) : Int)
    by_cases c : j = 0
    · rw [if_pos c, if_neg (by omega)]
    · rw [if_neg c, if_pos (by omega)]
  · have hi : i < q.1 - 1 := hi
    show N' (if i < j then q.2 i else q.2 (i + 1)) = (((if i + 1 < j then q.2 (i + 1) else q.2 (i + 1 + 1)) : Nat) : Int)
    by_cases c : i < j
    · rw [if_pos c, hN i (by omega) (by omega)]
      by_cases c2 : i + 1 = j
      · rw [if_pos c2, if_neg (by omega), c2]
      · rw [if_neg c2, if_pos (by omega)]
    · rw [if_neg c, hN (i + 1) (by omega) (by omega), if_neg (by omega), if_neg (by omega)]
  · show (if q.1 - 1 < j then q.2 (q.1 - 1) else q.2 (q.1 - 1 + 1)) = 0
    rw [if_neg (by omega), show q.1 - 1 + 1 = q.1 from by omega]
    exact h3
  · have hi : i < q.1 - 1 := hi
    have hk : k < q.1 - 1 := hk
    have e : (if i < j then q.2 i else q.2 (i + 1)) = (if k < j then q.2 k else q.2 (k + 1)) := e
    by_cases c : i < j
    · rw [if_pos c] at e
      by_cases c2 : k < j
      · rw [if_pos c2] at e
        exact h4 i k (by omega) (by omega) e
      · rw [if_neg c2] at e
        have := h4 i (k + 1) (by omega) (by omega) e
        omega
    · rw [if_neg c] at e
      by_cases c2 : k < j
      · rw [if_pos c2] at e
        have := h4 (i + 1) k (by omega) (by omega) e
        omega
      · rw [if_neg c2] at e
        have := h4 (i + 1) (k + 1) (by omega) (by omega) e
        omega
theorem cmem_del {q : CQ} {j x : Nat} (hj : j < q.1) (hd : ∀ i k, i < q.1 → k < q.1 → q.2 i = q.2 k → i = k) : cmem (delQ q j) x ↔ (cmem q x ∧ x ≠ q.2 j) := by
  constructor
  · rintro ⟨i, hi, e⟩
    have hi : i < q.1 - 1 := hi
    have e : (if i < j then q.2 i else q.2 (i + 1)) = x := e
    by_cases c : i < j
    · rw [if_pos c] at e
      exact ⟨⟨i, by omega, e⟩, fun z => by have := hd i j (by omega) hj (e.trans z); omega⟩
    · rw [if_neg c] at e
      exact ⟨⟨i + 1, by omega, e⟩, fun z => by have := hd (i + 1) j (by omega) hj (e.trans z); omega⟩
  · rintro ⟨⟨i, hi, e⟩, hne⟩
    by_cases c : i < j
    · exact ⟨i, (show i < q.1 - 1 by omega), (if_pos c).trans e⟩
    · have c2 : i ≠ j := fun z => hne (by rw [← e, z])
      refine ⟨i - 1, (show i - 1 < q.1 - 1 by omega), (if_neg (by omega)).trans ?_⟩
      rw [show i - 1 + 1 = i from by omega]
      exact e
theorem lk_add {N N' : Nat → Int} {s : Int} {q : CQ} {y : Nat} (h : lk N s q) (hn : ∀ i, i < q.1 → q.2 i ≠ y) (h0 : N' y = s) (hN : ∀ i, i < q.1 → N' (q.2 i) = N (q.2 i)) : lk N' ((y : Nat) : Int) (addQ q y) := by
  obtain ⟨h1, h2, h3, h4⟩ := h
  refine ⟨rfl, fun i hi => ?_, ?_, fun i k hi hk e => ?_⟩
  · have hi : i < q.1 + 1 := hi
    show N' (if i = 0 then y else q.2 (i - 1)) = (((if i + 1 = 0 then y else q.2 (i + 1 - 1)) : Nat) : Int)
    rw [if_neg (show ¬ i + 1 = 0 by omega), show i + 1 - 1 = i from by omega]
    by_cases c : i = 0
    · rw [if_pos c, h0, h1, c]
    · rw [if_neg c, hN (i - 1) (by omega), h2 (i - 1) (by omega), show i - 1 + 1 = i from by omega]
  · show (if q.1 + 1 = 0 then y else q.2 (q.1 + 1 - 1)) = 0
    rw [if_neg (by omega), show q.1 + 1 - 1 = q.1 from by omega]
    exact h3
  · have hi : i < q.1 + 1 := hi
    have hk : k < q.1 + 1 := hk
    have e : (if i = 0 then y else q.2 (i - 1)) = (if k = 0 then y else q.2 (k - 1)) := e
    by_cases c : i = 0
    · rw [if_pos c] at e
      by_cases c2 : k = 0
      · omega
      · rw [if_neg c2] at e
        exact absurd e.symm (hn (k - 1) (by omega))
    · rw [if_neg c] at e
      by_cases c2 : k = 0
      · rw [if_pos c2] at e
        exact absurd e (hn (i - 1) (by omega))
      · rw [if_neg c2] at e
        have := h4 (i - 1) (k - 1) (by omega) (by omega) e
        omega
theorem cmem_add {q : CQ} {y x : Nat} : cmem (addQ q y) x ↔ (x = y ∨ cmem q x) := by
  constructor
  · rintro ⟨i, hi, e⟩
    have hi : i < q.1 + 1 := hi
    have e : (if i = 0 then y else q.2 (i - 1)) = x := e
    by_cases c : i = 0
    · rw [if_pos c] at e
      exact Or.inl e.symm
    · rw [if_neg c] at e
      exact Or.inr ⟨i - 1, by omega, e⟩
  · rintro (rfl | ⟨i, hi, e⟩)
    · exact ⟨0, (show 0 < q.1 + 1 by omega), (show (if (0 : Nat) = 0 then x else q.2 (0 - 1)) = x from if_pos rfl)⟩
    · refine ⟨i + 1, (show i + 1 < q.1 + 1 by omega), ?_⟩
      show (if i + 1 = 0 then y else q.2 (i + 1 - 1)) = x
      rw [if_neg (by omega), show i + 1 - 1 = i from by omega]
      exact e
theorem lk_cg {N N' : Nat → Int} {s s' : Int} {q : CQ} (h : lk N s q) (h0 : s' = s) (hN : ∀ i, i < q.1 → N' (q.2 i) = N (q.2 i)) : lk N' s' q := ⟨h0.trans h.1, fun i hi => (hN i hi).trans (h.2.1 i hi), h.2.2.1, h.2.2.2⟩
theorem sumN_c {f g : Nat → Nat} : ∀ {N : Nat}, (∀ i, i < N → f i = g i) → sumN f N = sumN g N
  | 0, _ => rfl
  | N + 1, h => by
    show sumN f N + f N = sumN g N + g N
    rw [sumN_c (fun i hi => h i (by omega)), h N (by omega)]
theorem sumN_upd {f g : Nat → Nat} {y : Nat} : ∀ {N : Nat}, y < N → (∀ i, i ≠ y → f i = g i) → sumN f N + g y = sumN g N + f y
  | 0, hy, _ => absurd hy (by omega)
  | N + 1, hy, h => by
    show sumN f N + f N + g y = sumN g N + g N + f y
    by_cases c : y = N
    · subst c
      rw [sumN_c (f := f) (g := g) (fun i hi => h i (by omega))]
      omega
    · have := sumN_upd (N := N) (by omega) h
      rw [h N (by omega)]
      omega
theorem sumN_one {f : Nat → Nat} {y : Nat} : ∀ {N : Nat}, y < N → f y ≤ sumN f N
  | 0, hy => absurd hy (by omega)
  | N + 1, hy => by
    show f y ≤ sumN f N + f N
    by_cases c : y = N
    · rw [c]
      omega
    · have := sumN_one (f := f) (N := N) (y := y) (by omega)
      omega
theorem sumN_z {f : Nat → Nat} : ∀ {N : Nat}, sumN f N = 0 → ∀ i, i < N → f i = 0 := fun {N} h i hi => by
  have := sumN_one (f := f) hi
  omega
/-- a node is put in, or taken out -/
def setD (D : DT) (y v : Nat) (w : Nat → Nat) (g : Nat → Bool) : DT := (fun x => if x = y then true else dl D x, fun x => if x = y then v else dv D x, fun x => if x = y then w else dk D x, fun x => if x = y then g else ds D x)
def delD (D : DT) (y : Nat) : DT := (fun x => if x = y then false else dl D x, dv D, dk D, ds D)
section DX
variable {D : DT} {y v : Nat} {w : Nat → Nat} {g : Nat → Bool}
theorem setD_l (x : Nat) : dl (setD D y v w g) x = if x = y then true else dl D x := rfl
theorem setD_v (x : Nat) : dv (setD D y v w g) x = if x = y then v else dv D x := rfl
theorem setD_k (x : Nat) : dk (setD D y v w g) x = if x = y then w else dk D x := rfl
theorem setD_s (x : Nat) : ds (setD D y v w g) x = if x = y then g else ds D x := rfl
theorem setD_ln {x : Nat} (h : x ≠ y) : dl (setD D y v w g) x = dl D x := if_neg h
theorem setD_vn {x : Nat} (h : x ≠ y) : dv (setD D y v w g) x = dv D x := if_neg h
theorem setD_kn {x : Nat} (h : x ≠ y) : dk (setD D y v w g) x = dk D x := if_neg h
theorem setD_sn {x : Nat} (h : x ≠ y) : ds (setD D y v w g) x = ds D x := if_neg h
theorem setD_ly : dl (setD D y v w g) y = true := if_pos rfl
theorem setD_vy : dv (setD D y v w g) y = v := if_pos rfl
theorem setD_ky : dk (setD D y v w g) y = w := if_pos rfl
theorem setD_sy : ds (setD D y v w g) y = g := if_pos rfl
theorem delD_l (x : Nat) : dl (delD D y) x = if x = y then false else dl D x := rfl
theorem delD_ln {x : Nat} (h : x ≠ y) : dl (delD D y) x = dl D x := if_neg h
theorem delD_ly : dl (delD D y) y = false := if_pos rfl
theorem delD_i {x : Nat} : dl (delD D y) x = true ↔ (dl D x = true ∧ x ≠ y) := by
  rw [delD_l]
  by_cases c : x = y
  · rw [if_pos c]
    exact ⟨fun h => absurd h (by decide), fun h => absurd c h.2⟩
  · rw [if_neg c]
    exact ⟨fun h => ⟨h, c⟩, fun h => h.1⟩
theorem setD_i {x : Nat} : dl (setD D y v w g) x = true ↔ (dl D x = true ∨ x = y) := by
  rw [setD_l]
  by_cases c : x = y
  · rw [if_pos c]
    exact ⟨fun _ => Or.inr c, fun _ => rfl⟩
  · rw [if_neg c]
    exact ⟨fun h => Or.inl h, fun h => h.resolve_right c⟩
variable {sz : Nat → Nat} {U : Nat}
theorem edg_set (hy : y < U) (hd : dl D y = false) (z : Nat) : edg sz (setD D y v w g) U z = edg sz D U z + cntB (fun k => decide (w k = z)) (sz v) := by
  have h := sumN_upd (f := fun x => if dl (setD D y v w g) x then cntB (fun k => decide (dk (setD D y v w g) x k = z)) (sz (dv (setD D y v w g) x)) else 0) (g := fun x => if dl D x then cntB (fun k => decide (dk D x k = z)) (sz (dv D x)) else 0) (y := y) (N := U) hy (fun i hi => by
    try dsimp only
    rw [setD_ln hi, setD_kn hi, setD_vn hi])
  try dsimp only at h
  rw [setD_ly, setD_ky, setD_vy, if_pos rfl, hd, if_neg (by decide)] at h
  unfold edg
  omega
theorem edg_del (hy : y < U) (hd : dl D y = true) (z : Nat) : edg sz D U z = edg sz (delD D y) U z + cntB (fun k => decide (dk D y k = z)) (sz (dv D y)) := by
  have h := sumN_upd (f := fun x => if dl D x then cntB (fun k => decide (dk D x k = z)) (sz (dv D x)) else 0) (g := fun x => if dl (delD D y) x then cntB (fun k => decide (dk D x k = z)) (sz (dv D x)) else 0) (y := y) (N := U) hy (fun i hi => by
    try dsimp only
    rw [delD_ln hi])
  try dsimp only at h
  rw [delD_ly, if_neg (by decide), hd, if_pos rfl] at h
  unfold edg
  show _ = sumN (fun x => if dl (delD D y) x then cntB (fun k => decide (dk D x k = z)) (sz (dv D x)) else 0) U + _
  omega
theorem edg_up (hU : dl D U = false) (z : Nat) : edg sz D (U + 1) z = edg sz D U z := by
  show sumN _ U + (if dl D U then _ else 0) = _
  rw [hU]
  rfl
theorem edg_pos {x k : Nat} (hx : x < U) (hd : dl D x = true) (hk : k < sz (dv D x)) : 0 < edg sz D U (dk D x k) := by
  have h := sumN_one (f := fun x' => if dl D x' then cntB (fun k' => decide (dk D x' k' = dk D x k)) (sz (dv D x')) else 0) (y := x) (N := U) hx
  try dsimp only at h
  rw [hd, if_pos rfl] at h
  have h2 : 0 < cntB (fun k' => decide (dk D x k' = dk D x k)) (sz (dv D x)) := by
    rw [cntB_any]
    exact anyB_iff.mpr ⟨k, hk, decide_eq_true rfl⟩
  unfold edg
  omega
theorem edg_0 {z : Nat} (h : edg sz D U z = 0) {x k : Nat} (hx : x < U) (hd : dl D x = true) (hk : k < sz (dv D x)) : dk D x k ≠ z := fun e => by
  have := edg_pos (sz := sz) hx hd hk
  rw [e] at this
  omega
theorem edg_ex {z : Nat} (h : 0 < edg sz D U z) : ∃ x k, x < U ∧ dl D x = true ∧ k < sz (dv D x) ∧ dk D x k = z := Classical.byContradiction fun c => by
  have h0 : ∀ {N : Nat}, N ≤ U → sumN (fun x => if dl D x then cntB (fun k => decide (dk D x k = z)) (sz (dv D x)) else 0) N = 0 := by
    intro N
    induction N with
    | zero => intro _; rfl
    | succ N ih =>
      intro hN
      show sumN _ N + (if dl D N then cntB (fun k => decide (dk D N k = z)) (sz (dv D N)) else 0) = 0
      rw [ih (by omega)]
      cases hd : dl D N with
      | false => rfl
      | true =>
        rw [if_pos rfl]
        rw [show cntB (fun k => decide (dk D N k = z)) (sz (dv D N)) = 0 from cntB_z.mpr (fun k hk => decide_eq_false (fun e => c ⟨N, k, by omega, hd, hk, e⟩))]
  have := h0 (Nat.le_refl U)
  unfold edg at h
  omega
theorem cnt_set (hy : y < U) (hd : dl D y = false) : cntB (dl (setD D y v w g)) U = cntB (dl D) U + 1 := by
  rw [cntB_rm (P := dl (setD D y v w g)) setD_ly hy]
  rw [cntB_cg (p := fun i => dl (setD D y v w g) i && !decide (i = y)) (q := dl D) (fun i _ => by
    by_cases c : i = y
    · rw [c, hd, decide_eq_true rfl, setD_ly]
      rfl
    · rw [setD_ln c, decide_eq_false c]
      exact Bool.and_true _)]
theorem cnt_del (hy : y < U) (hd : dl D y = true) : cntB (dl D) U = cntB (dl (delD D y)) U + 1 := by
  rw [cntB_rm (P := dl D) hd hy]
  rw [cntB_cg (p := fun i => dl D i && !decide (i = y)) (q := dl (delD D y)) (fun i _ => by
    by_cases c : i = y
    · rw [c, hd, decide_eq_true rfl, delD_ly]
      rfl
    · rw [delD_ln c, decide_eq_false c]
      exact Bool.and_true _)]
variable {n out out' U' : Nat}
theorem dP_set (hP : dP n sz D out U) (hU : U ≤ U') (hy : 2 ≤ y ∧ y < U') (hd : dl D y = false) (ho : ∀ x, dok (setD D y v w g) out' x ↔ (dok D out x ∨ x = y)) (ho2 : out' = 0 ∨ (2 ≤ out' ∧ out' < U')) (ho3 : ∀ x, dl D x = true → x ≠ out') (ho4 : y ≠ out') (hgy : dok D out y → g = ds D y) (hv : v < n) (ht : tbT (pr sz n) g) (hdp : dpT n sz g v = true) (hw : ∀ k, k < sz v → dok D out (w k) ∧ ds D (w k) = cof n sz g v k) (hi : ∀ x, dok D out x → ds D x = g → x = y) : dP n sz (setD D y v w g) out' U' := by
  obtain ⟨h1, h2, h3, h4, h5, h6, h7⟩ := hP
  have hs : ∀ x, dok D out x → ds (setD D y v w g) x = ds D x := fun x hx => by
    by_cases c : x = y
    · subst c
      rw [setD_sy]
      exact hgy hx
    · exact setD_sn c
  refine ⟨fun x hx => ?_, ho2, fun x hx => ?_, fun x hx k hk => ?_, ?_, ?_, fun x z hx hz e => ?_⟩
  · rcases setD_i.mp hx with hx | rfl
    · have := h1 x hx
      exact ⟨this.1, by omega, ho3 x hx⟩
    · exact ⟨hy.1, hy.2, ho4⟩
  · by_cases c : x = y
    · subst c
      rw [setD_vy, setD_sy]
      exact ⟨hv, ht, hdp⟩
    · rw [setD_vn c, setD_sn c]
      exact h3 x ((setD_ln c).symm.trans hx)
  · by_cases c : x = y
    · subst c
      rw [setD_vy] at hk ⊢
      rw [setD_ky, setD_sy]
      have := hw k hk
      exact ⟨(ho _).mpr (Or.inl this.1), (hs _ this.1).trans this.2⟩
    · rw [setD_vn c] at hk ⊢
      rw [setD_kn c, setD_sn c]
      have := h4 x ((setD_ln c).symm.trans hx) k hk
      exact ⟨(ho _).mpr (Or.inl this.1), (hs _ this.1).trans this.2⟩
  · rw [setD_sn (by omega)]
    exact h5
  · rw [setD_sn (by omega)]
    exact h6
  · have key : ∀ x, dok D out x ∨ x = y → ds (setD D y v w g) x = g → x = y := fun x hx e => by
      rcases hx with hx | hx
      · exact hi x hx ((hs x hx).symm.trans e)
      · exact hx
    by_cases c : x = y
    · subst c
      rw [setD_sy] at e
      exact (key z ((ho z).mp hz) e.symm).symm
    · by_cases c2 : z = y
      · subst c2
        rw [setD_sy] at e
        exact key x ((ho x).mp hx) e
      · have hx' := ((ho x).mp hx).resolve_right c
        have hz' := ((ho z).mp hz).resolve_right c2
        rw [hs x hx', hs z hz'] at e
        exact h7 x z hx' hz' e
theorem dP_del (hP : dP n sz D out U) (hd : dl D y = true) (ho : ∀ x, dok (delD D y) out' x → dok D out x) (ho2 : out' = 0 ∨ (2 ≤ out' ∧ out' < U)) (ho3 : ∀ x, dl D x = true → x ≠ y → x ≠ out') (hk : ∀ x k, dl D x = true → x ≠ y → k < sz (dv D x) → dok (delD D y) out' (dk D x k)) : dP n sz (delD D y) out' U := by
  obtain ⟨h1, h2, h3, h4, h5, h6, h7⟩ := hP
  refine ⟨fun x hx => ?_, ho2, fun x hx => ?_, fun x hx k hkk => ?_, h5, h6, fun x z hx hz e => ?_⟩
  · have hx := delD_i.mp hx
    have := h1 x hx.1
    exact ⟨this.1, this.2.1, ho3 x hx.1 hx.2⟩
  · exact h3 x (delD_i.mp hx).1
  · have hx := delD_i.mp hx
    exact ⟨hk x k hx.1 hx.2 hkk, (h4 x hx.1 k hkk).2⟩
  · exact h7 x z (ho x hx) (ho z hz) e
variable {S S' : ST} {b : Nat} {ch : Nat → CQ}
theorem dch_lt (hP : dP n sz D out U) {x : Nat} (hx : dl D x = true) : dch sz D x < n * 64 := by
  have h1 := (hP.2.2.1 x hx).1
  have h2 := hc_lt (hsI (fun k => ((dk D x k : Nat) : Int)) (sz (dv D x)))
  unfold dch
  omega
theorem dch_setn {x : Nat} (h : x ≠ y) : dch sz (setD D y v w g) x = dch sz D x := by
  unfold dch
  rw [setD_vn h, setD_kn h]
theorem dch_sety : dch sz (setD D y v w g) y = v * 64 + hcI (hsI (fun k => ((w k : Nat) : Int)) (sz v)) := by
  unfold dch
  rw [setD_vy, setD_ky]
/-- linked in at the head of a chain -/
theorem dC_set (hC : dC S b n sz D ch) (hd : dl D y = false) (hv : v < n) (hn10 : n ≤ 10) {c : Nat} (hc : c = v * 64 + hcI (hsI (fun k => ((w k : Nat) : Int)) (sz v))) (h2 : ∀ x, SI S' (b + 2) x = if x = y then SI S 55 c else SI S (b + 2) x) (h55 : ∀ e, SI S' 55 e = if e = c then ((y : Nat) : Int) else SI S 55 e) : dC S' b n sz (setD D y v w g) (fun e => if e = c then addQ (ch c) y else ch e) := by
  have hcl := hc_lt (hsI (fun k => ((w k : Nat) : Int)) (sz v))
  have hne : ∀ e, e < n * 64 → ∀ i, i < (ch e).1 → (ch e).2 i ≠ y := fun e he i hi z => by
    have := ((hC.1 e he).2 y).mp ⟨i, hi, z⟩
    rw [hd] at this
    exact absurd this.1 (by decide)
  refine ⟨fun e he => ?_, fun e h3 h4 => ?_⟩
  · dsimp only
    by_cases ce : e = c
    · rw [if_pos ce, h55, if_pos ce]
      subst ce
      refine ⟨lk_add (hC.1 e he).1 (hne e he) ((h2 y).trans (if_pos rfl)) (fun i hi => (h2 _).trans (if_neg (hne e he i hi))), fun x => ?_⟩
      rw [cmem_add, (hC.1 e he).2 x]
      constructor
      · rintro (rfl | ⟨k1, k2⟩)
        · exact ⟨setD_ly, hc.trans dch_sety.symm⟩
        · have hxy : x ≠ y := fun z => by rw [z, hd] at k1; exact absurd k1 (by decide)
          exact ⟨(setD_ln hxy).trans k1, k2.trans (dch_setn hxy).symm⟩
      · rintro ⟨k1, k2⟩
        by_cases cx : x = y
        · exact Or.inl cx
        · rw [setD_ln cx] at k1
          rw [dch_setn cx] at k2
          exact Or.inr ⟨k1, k2⟩
    · rw [if_neg ce, h55, if_neg ce]
      refine ⟨lk_cg (hC.1 e he).1 rfl (fun i hi => (h2 _).trans (if_neg (hne e he i hi))), fun x => ?_⟩
      rw [(hC.1 e he).2 x]
      constructor
      · rintro ⟨k1, k2⟩
        have hxy : x ≠ y := fun z => by rw [z, hd] at k1; exact absurd k1 (by decide)
        exact ⟨(setD_ln hxy).trans k1, k2.trans (dch_setn hxy).symm⟩
      · rintro ⟨k1, k2⟩
        have cx : x ≠ y := fun z => ce (by rw [k2, z, dch_sety, hc])
        rw [setD_ln cx] at k1
        rw [dch_setn cx] at k2
        exact ⟨k1, k2⟩
  · rw [h55, if_neg (by omega)]
    exact hC.2 e h3 h4
/-- taken out of its chain -/
theorem dC_del (hC : dC S b n sz D ch) (hP : dP n sz D out U) (hd : dl D y = true) {j : Nat} (hj : j < (ch (dch sz D y)).1) (hy : (ch (dch sz D y)).2 j = y) (h2 : SI S' (b + 2) = SI (ulk S b (dch sz D y) (ch (dch sz D y)) j) (b + 2)) (h55 : SI S' 55 = SI (ulk S b (dch sz D y) (ch (dch sz D y)) j) 55) (hb : b ≠ 53) : dC S' b n sz (delD D y) (fun e => if e = dch sz D y then delQ (ch e) j else ch e) := by
  have hcl := dch_lt hP hd
  have hq := (hC.1 _ hcl).1
  have hother : ∀ e, e < n * 64 → e ≠ dch sz D y → ∀ i, i < (ch e).1 → ∀ k, k < (ch (dch sz D y)).1 → (ch e).2 i ≠ (ch (dch sz D y)).2 k := fun e he hne i hi k hk z => by
    have k1 := ((hC.1 e he).2 _).mp ⟨i, hi, rfl⟩
    have k2 := ((hC.1 _ hcl).2 _).mp ⟨k, hk, z.symm⟩
    exact hne (k1.2.trans k2.2.symm)
  refine ⟨fun e he => ?_, fun e h3 h4 => ?_⟩
  · dsimp only
    by_cases ce : e = dch sz D y
    · rw [if_pos ce]
      subst ce
      refine ⟨lk_del hq hj ?_ (fun i hi hij => ?_), fun x => ?_⟩
      · rw [h55]
        unfold ulk
        by_cases c0 : j = 0
        · rw [if_pos c0, if_pos c0, rI_at]
        · rw [if_neg c0, if_neg c0, rI_ne (by omega)]
          exact hq.1
      · rw [h2]
        unfold ulk
        by_cases c0 : j = 0
        · rw [if_pos c0, rI_ne (by omega), if_neg (by omega)]
          exact hq.2.1 i hi
        · rw [if_neg c0]
          by_cases c1 : i + 1 = j
          · rw [if_pos c1, show j - 1 = i from by omega, rI_at]
          · rw [if_neg c1, rI_nj (fun z => c1 (by have := hq.2.2.2 i (j - 1) hi (by omega) z; omega))]
            exact hq.2.1 i hi
      · rw [cmem_del hj hq.2.2.2, (hC.1 _ hcl).2 x, hy, delD_i]
        exact ⟨fun h => ⟨⟨h.1.1, h.2⟩, h.1.2⟩, fun h => ⟨⟨h.1.1, h.2⟩, h.1.2⟩⟩
    · rw [if_neg ce]
      refine ⟨lk_cg (hC.1 e he).1 ?_ (fun i hi => ?_), fun x => ?_⟩
      · rw [h55]
        unfold ulk
        by_cases c0 : j = 0
        · rw [if_pos c0, rI_nj ce]
        · rw [if_neg c0, rI_ne (by omega)]
      · rw [h2]
        unfold ulk
        by_cases c0 : j = 0
        · rw [if_pos c0, rI_ne (by omega)]
        · rw [if_neg c0, rI_nj (hother e he ce i hi (j - 1) (by omega))]
      · rw [(hC.1 e he).2 x, delD_i]
        constructor
        · rintro ⟨k1, k2⟩
          exact ⟨⟨k1, fun z => ce (by rw [k2, z])⟩, k2⟩
        · rintro ⟨k1, k2⟩
          exact ⟨k1.1, k2⟩
  · rw [h55]
    unfold ulk
    by_cases c0 : j = 0
    · rw [if_pos c0, rI_nj (by omega)]
      exact hC.2 e h3 h4
    · rw [if_neg c0, rI_ne (by omega)]
      exact hC.2 e h3 h4
end DX
