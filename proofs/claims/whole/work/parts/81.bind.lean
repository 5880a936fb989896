/-! ===== Functions: spreading, binding, counting, first and heaviest runs ===== -/
theorem cntB_t {p : Nat → Bool} {i : Nat} (h : p i = true) : ((cntB p i : Nat) : Int) + 1 = ((cntB p (i + 1) : Nat) : Int) := by
  show _ = ((cntB p i + (if p i then 1 else 0) : Nat) : Int)
  rw [h]
  rfl
theorem cntB_f {p : Nat → Bool} {i : Nat} (h : p i = false) : ((cntB p i : Nat) : Int) = ((cntB p (i + 1) : Nat) : Int) := by
  show _ = ((cntB p i + (if p i then 1 else 0) : Nat) : Int)
  rw [h]
  rfl
def bdB (all : Bool) (p : Nat → Bool) (s : Nat) : Bool := if all then allB p s else anyB p s
theorem bd_1 {all : Bool} {p : Nat → Bool} {s : Nat} (h : all = true) (c : cntB p s = s) : bdB all p s = true := by
  subst h
  exact (cntB_all p s).mp c
theorem bd_2 {all : Bool} {p : Nat → Bool} {s : Nat} (h : all = true) (c : ¬ cntB p s = s) : bdB all p s = false := by
  subst h
  show allB p s = false
  cases e : allB p s with
  | false => rfl
  | true => exact absurd ((cntB_all p s).mpr e) c
theorem bd_3 {all : Bool} {p : Nat → Bool} {s : Nat} (h : all = false) (c : 0 < cntB p s) : bdB all p s = true := by
  subst h
  exact (cntB_any p s).mp c
theorem bd_4 {all : Bool} {p : Nat → Bool} {s : Nat} (h : all = false) (c : ¬ 0 < cntB p s) : bdB all p s = false := by
  subst h
  show anyB p s = false
  cases e : anyB p s with
  | false => rfl
  | true => exact absurd ((cntB_any p s).mpr e) c
/-- rows of a function's places that stand in a line get one value -/
def lnB (f : Nat → Bool) (r0 p s : Nat) (b : Bool) : Nat → Bool := fun r => if anyB (fun k => decide (r = r0 + k * p)) s then b else f r
theorem lnB_0 (f : Nat → Bool) (r0 p : Nat) (b : Bool) : lnB f r0 p 0 b = f := rfl
theorem lnB_t {S : ST} {a r0 p j : Nat} {f : Nat → Bool} : wRw (wRw S a 0 (lnB f r0 p j true)) a 0 (fun s => lnB f r0 p j true s || decide (s = r0 + j * p)) = wRw S a 0 (lnB f r0 p (j + 1) true) := by
  rw [wRw_wRw]
  refine wRw_eq (fun r _ => ?_)
  show (lnB f r0 p j true r || decide (r = r0 + j * p)) = if (anyB (fun k => decide (r = r0 + k * p)) j || decide (r = r0 + j * p)) then true else f r
  unfold lnB
  cases anyB (fun k => decide (r = r0 + k * p)) j <;> cases decide (r = r0 + j * p) <;> simp
theorem lnB_f {S : ST} {a r0 p j : Nat} {f : Nat → Bool} : wRw (wRw S a 0 (lnB f r0 p j false)) a 0 (fun s => lnB f r0 p j false s && !decide (s = r0 + j * p)) = wRw S a 0 (lnB f r0 p (j + 1) false) := by
  rw [wRw_wRw]
  refine wRw_eq (fun r _ => ?_)
  show (lnB f r0 p j false r && !decide (r = r0 + j * p)) = if (anyB (fun k => decide (r = r0 + k * p)) j || decide (r = r0 + j * p)) then false else f r
  unfold lnB
  cases anyB (fun k => decide (r = r0 + k * p)) j <;> cases decide (r = r0 + j * p) <;> simp
def qnt (sz : Nat → Nat) (all : Bool) (f : Nat → Bool) (v r : Nat) : Bool := bdB all (fun k => f (chg sz r v k)) (sz v)
def bnd (sz : Nat → Nat) (T : Nat) (all : Bool) (f : Nat → Bool) (v i : Nat) : Nat → Bool := fun r => if r < T ∧ chg sz r v 0 < i then qnt sz all f v r else f r
theorem chg_0 {sz : Nat → Nat} {r v k : Nat} (h : val sz r v = 0) : r + k * pr sz v = chg sz r v k := by
  have h1 := run_split sz r v
  rw [h, Nat.zero_mul] at h1
  unfold chg
  omega
theorem allB_c {p q : Nat → Bool} {s : Nat} (h : ∀ k, k < s → p k = q k) : allB p s = allB q s := by
  induction s with
  | zero => rfl
  | succ s ih =>
    show (allB p s && p s) = (allB q s && q s)
    rw [ih (fun k hk => h k (by omega)), h s (by omega)]
theorem anyB_c {p q : Nat → Bool} {s : Nat} (h : ∀ k, k < s → p k = q k) : anyB p s = anyB q s := by
  induction s with
  | zero => rfl
  | succ s ih =>
    show (anyB p s || p s) = (anyB q s || q s)
    rw [ih (fun k hk => h k (by omega)), h s (by omega)]
theorem bdB_c {all : Bool} {p q : Nat → Bool} {s : Nat} (h : ∀ k, k < s → p k = q k) : bdB all p s = bdB all q s := by
  unfold bdB
  rw [allB_c h, anyB_c h]
theorem qnt_chg {n : Nat} {sz : Nat → Nat} (hw : wf n sz) {all : Bool} {f : Nat → Bool} {v r x : Nat} (hv : v < n) (hx : x < sz v) : qnt sz all f v (chg sz r v x) = qnt sz all f v r := bdB_c (fun k hk => by rw [chg_chg hw hv hx])
theorem bnd_s {n : Nat} {sz : Nat → Nat} (hw : wf n sz) {S : ST} {all : Bool} {f : Nat → Bool} {v i a : Nat} (hv : v < n) (hi : i < pr sz n) (h0 : val sz i v = 0) : wRw (wRw S a 0 (bnd sz (pr sz n) all f v i)) a 0 (lnB (bnd sz (pr sz n) all f v i) i (pr sz v) (sz v) (bdB all (fun k => bnd sz (pr sz n) all f v i (i + k * pr sz v)) (sz v))) = wRw S a 0 (bnd sz (pr sz n) all f v (i + 1)) := by
  rw [wRw_wRw]
  refine wRw_eq (fun r _ => ?_)
  have hs := hw.spos hv
  have hi0 : chg sz i v 0 = i := by
    have := chg_val sz i v
    rw [h0] at this
    exact this
  have hc : ∀ k, k < sz v → bnd sz (pr sz n) all f v i (i + k * pr sz v) = f (chg sz i v k) := fun k hk => by
    rw [chg_0 h0]
    unfold bnd
    rw [if_neg]
    rw [chg_chg hw hv hk, hi0]
    omega
  unfold lnB
  by_cases c : anyB (fun k => decide (r = i + k * pr sz v)) (sz v) = true
  · rw [if_pos c]
    obtain ⟨k, hk, e⟩ := anyB_iff.mp c
    have e := of_decide_eq_true e
    rw [chg_0 h0] at e
    subst e
    unfold bnd
    rw [if_pos ⟨chg_lt hw hv hk hi, by rw [chg_chg hw hv hk, hi0]; omega⟩, qnt_chg hw hv hk]
    exact bdB_c hc
  · rw [if_neg c]
    unfold bnd
    by_cases c2 : r < pr sz n ∧ chg sz r v 0 < i
    · rw [if_pos c2, if_pos ⟨c2.1, by omega⟩]
    · rw [if_neg c2]
      by_cases c3 : r < pr sz n ∧ chg sz r v 0 < i + 1
      · exfalso
        have e : chg sz r v 0 = i := by omega
        refine c (anyB_iff.mpr ⟨val sz r v, hw.val hv r, decide_eq_true ?_⟩)
        rw [chg_0 h0, ← e, chg_chg hw hv hs, chg_val]
      · rw [if_neg c3]
theorem bnd_n {n : Nat} {sz : Nat → Nat} (hw : wf n sz) {S : ST} {all : Bool} {f : Nat → Bool} {v i a : Nat} (hv : v < n) (h0 : ¬ val sz i v = 0) : wRw S a 0 (bnd sz (pr sz n) all f v i) = wRw S a 0 (bnd sz (pr sz n) all f v (i + 1)) := by
  refine wRw_eq (fun r _ => ?_)
  unfold bnd
  by_cases c2 : r < pr sz n ∧ chg sz r v 0 < i
  · rw [if_pos c2, if_pos ⟨c2.1, by omega⟩]
  · rw [if_neg c2]
    by_cases c3 : r < pr sz n ∧ chg sz r v 0 < i + 1
    · exfalso
      have e : chg sz r v 0 = i := by omega
      exact h0 (by rw [← e, chg_at hw hv (hw.spos hv)])
    · rw [if_neg c3]
theorem bnd_T {n : Nat} {sz : Nat → Nat} (hw : wf n sz) {S : ST} {all : Bool} {f : Nat → Bool} {v a : Nat} (hv : v < n) : wRw S a 0 (bnd sz (pr sz n) all f v (pr sz n)) = wRw S a 0 (fun r => if r < pr sz n then qnt sz all f v r else f r) := by
  refine wRw_eq (fun r _ => ?_)
  unfold bnd
  by_cases c : r < pr sz n
  · rw [if_pos ⟨c, chg_lt hw hv (hw.spos hv) c⟩, if_pos c]
  · rw [if_neg (fun z => c z.1), if_neg c]
section FB
variable {X : List Int32} {S : ST} {n : Nat} {sz : Nat → Nat} {fn : Nat} {a b c : Nat} {f g h : Nat → Bool} {wt : Nat → Int} {ro : Nat → Bool}
theorem c_bindFrom {r0 p s : Nat} {all : Bool} (hk : kd S a = some (.inl (2, 16))) (hf : rowS S a 0 f) (hr : ∀ k, k < s → r0 + k * p < 1024) (hs : s ≤ 6) : sM X 1 75 [.ref a, .int (iI (r0 : Nat)), .int (iI (p : Nat)), .int (iI (s : Nat)), .int (iI (bI all))] S (sV none (wRw S a 0 (lnB f r0 p s (bdB all (fun k => f (r0 + k * p)) s)))) := by
  refine sIni (ls := [some (.ref a), some (.int (iI ((r0 : Nat) : Int))), some (.int (iI ((p : Nat) : Int))), some (.int (iI ((s : Nat) : Int))), some (.int (iI (bI all))), none, none, none]) rfl ?_
  refine sKi (p := 1) rfl rfl ?_
  refine sL (pc' := 3) (i := .istore 5) (ls' := [some (.ref a), some (.int (iI ((r0 : Nat) : Int))), some (.int (iI ((p : Nat) : Int))), some (.int (iI ((s : Nat) : Int))), some (.int (iI (bI all))), some (.int (iI 0)), none, none]) rfl rfl ?_
  refine sKi (p := 4) rfl rfl ?_
  refine sL (pc' := 6) (i := .istore 6) (ls' := [some (.ref a), some (.int (iI ((r0 : Nat) : Int))), some (.int (iI ((p : Nat) : Int))), some (.int (iI ((s : Nat) : Int))), some (.int (iI (bI all))), some (.int (iI 0)), some (.int (iI 0)), none]) rfl rfl ?_
  refine sIt (A := fun i => [some (.ref a), some (.int (iI ((r0 : Nat) : Int))), some (.int (iI ((p : Nat) : Int))), some (.int (iI ((s : Nat) : Int))), some (.int (iI (bI all))), some (.int (iI ((cntB (fun k => f (r0 + k * p)) i : Nat) : Int))), some (.int (iI ((i : Nat) : Int))), none]) (B := fun _ => S) (fun _ => True) s True.intro (fun i hi6 hI6 ih6 => ?_) (fun hI6 => ?_)
  · have hi6 := hi6
    have hb1 := hr i hi6
    have hc1 := cntB_le (fun k => f (r0 + k * p)) i
    refine sL (pc' := 8) (i := .iload 6) rfl rfl ?_
    refine sL (pc' := 9) (i := .iload_n 3) rfl rfl ?_
    refine sIc_ge (p := 12) rfl rfl ⟨by omega, by omega⟩ ⟨by omega, by omega⟩ (fun c1 => ?_) (fun c1 => ?_)
    · exfalso; omega
    · have c1 := c1
      refine sL (pc' := 13) (i := .aload_n 0) rfl rfl ?_
      refine sL (pc' := 14) (i := .iload_n 1) rfl rfl ?_
      refine sL (pc' := 16) (i := .iload 6) rfl rfl ?_
      refine sL (pc' := 17) (i := .iload_n 2) rfl rfl ?_
      refine sMu (p := 18) rfl rfl ?_
      refine sAd (p := 19) rfl rfl ?_
      refine sCs (p := 22) (as := [_, _]) rfl rfl rfl rfl (by decide) (Nat.le_of_ble_eq_true rfl) rfl (Nat.le_of_ble_eq_true rfl) rfl (by omega) (c_so (r := r0 + i * p) hk hf (by omega)) ?_
      refine sBe (p := 25) rfl rfl (fun c2 => ?_) (fun c2 => ?_)
      · have c2 := c2
        refine sInX (z := ((i : Nat) : Int)) (ls' := [some (.ref a), some (.int (iI ((r0 : Nat) : Int))), some (.int (iI ((p : Nat) : Int))), some (.int (iI ((s : Nat) : Int))), some (.int (iI (bI all))), some (.int (iI ((cntB (fun k => f (r0 + k * p)) i : Nat) : Int))), some (.int (iI (((i : Nat) : Int) + 1))), none]) (p := 31) rfl rfl (Nat.le_of_ble_eq_true rfl) rfl rfl ?_
        refine sL (i := .goto (-25)) rfl rfl ?_
        refine sRo (ls := [some (.ref a), some (.int (iI ((r0 : Nat) : Int))), some (.int (iI ((p : Nat) : Int))), some (.int (iI ((s : Nat) : Int))), some (.int (iI (bI all))), some (.int (iI ((cntB (fun k => f (r0 + k * p)) (i + 1) : Nat) : Int))), some (.int (iI ((i + 1 : Nat) : Int))), none]) (T := _) (And.intro rfl (And.intro rfl (And.intro rfl (And.intro rfl (And.intro rfl (And.intro (congrArg (fun z => some (Value.int z)) (congrArg iI (cntB_f (p := fun k => f (r0 + k * p)) c2))) (And.intro rfl (True.intro)))))))) (rfl) (ih6 ?_)
        exact True.intro
      · have c2 := c2
        refine sInX (z := ((cntB (fun k => f (r0 + k * p)) i : Nat) : Int)) (ls' := [some (.ref a), some (.int (iI ((r0 : Nat) : Int))), some (.int (iI ((p : Nat) : Int))), some (.int (iI ((s : Nat) : Int))), some (.int (iI (bI all))), some (.int (iI (((cntB (fun k => f (r0 + k * p)) i : Nat) : Int) + 1))), some (.int (iI ((i : Nat) : Int))), none]) (p := 28) rfl rfl (Nat.le_of_ble_eq_true rfl) rfl rfl ?_
        refine sInX (z := ((i : Nat) : Int)) (ls' := [some (.ref a), some (.int (iI ((r0 : Nat) : Int))), some (.int (iI ((p : Nat) : Int))), some (.int (iI ((s : Nat) : Int))), some (.int (iI (bI all))), some (.int (iI (((cntB (fun k => f (r0 + k * p)) i : Nat) : Int) + 1))), some (.int (iI (((i : Nat) : Int) + 1))), none]) (p := 31) rfl rfl (Nat.le_of_ble_eq_true rfl) rfl rfl ?_
        refine sL (i := .goto (-25)) rfl rfl ?_
        refine sRo (ls := [some (.ref a), some (.int (iI ((r0 : Nat) : Int))), some (.int (iI ((p : Nat) : Int))), some (.int (iI ((s : Nat) : Int))), some (.int (iI (bI all))), some (.int (iI ((cntB (fun k => f (r0 + k * p)) (i + 1) : Nat) : Int))), some (.int (iI ((i + 1 : Nat) : Int))), none]) (T := _) (And.intro rfl (And.intro rfl (And.intro rfl (And.intro rfl (And.intro rfl (And.intro (congrArg (fun z => some (Value.int z)) (congrArg iI (cntB_t (p := fun k => f (r0 + k * p)) c2))) (And.intro rfl (True.intro)))))))) (rfl) (ih6 ?_)
        exact True.intro
  · have hI6 := hI6
    have hc1 := cntB_le (fun k => f (r0 + k * p)) s
    refine sL (pc' := 8) (i := .iload 6) rfl rfl ?_
    refine sL (pc' := 9) (i := .iload_n 3) rfl rfl ?_
    refine sIc_ge (p := 12) rfl rfl ⟨by omega, by omega⟩ ⟨by omega, by omega⟩ (fun c3 => ?_) (fun c3 => ?_)
    · have c3 := c3
      refine sL (pc' := 36) (i := .iload 4) rfl rfl ?_
      refine sBe (p := 39) rfl rfl (fun c4 => ?_) (fun c4 => ?_)
      · have c4 := c4
        have hall := c4
        refine sL (pc' := 55) (i := .iload 5) rfl rfl ?_
        refine sIf_le (p := 58) rfl rfl ⟨by omega, by omega⟩ (fun c5 => ?_) (fun c5 => ?_)
        · have c5 := c5
          have hb := bd_4 hall (show ¬ 0 < cntB (fun k => f (r0 + k * p)) s by omega)
          refine sKi (p := 63) rfl rfl ?_
          refine sL (pc' := 65) (i := .istore 6) (ls' := [some (.ref a), some (.int (iI ((r0 : Nat) : Int))), some (.int (iI ((p : Nat) : Int))), some (.int (iI ((s : Nat) : Int))), some (.int (iI (bI all))), some (.int (iI ((cntB (fun k => f (r0 + k * p)) s : Nat) : Int))), some (.int (iI 0)), none]) rfl rfl ?_
          refine sKi (p := 66) rfl rfl ?_
          refine sL (pc' := 68) (i := .istore 7) (ls' := [some (.ref a), some (.int (iI ((r0 : Nat) : Int))), some (.int (iI ((p : Nat) : Int))), some (.int (iI ((s : Nat) : Int))), some (.int (iI (bI all))), some (.int (iI ((cntB (fun k => f (r0 + k * p)) s : Nat) : Int))), some (.int (iI 0)), some (.int (iI 0))]) rfl rfl ?_
          refine sSh (T := wRw S a 0 (lnB f r0 p 0 false)) (congrArg sH (wRw_same hf).symm) ?_
          refine sIt (A := fun j => [some (.ref a), some (.int (iI ((r0 : Nat) : Int))), some (.int (iI ((p : Nat) : Int))), some (.int (iI ((s : Nat) : Int))), some (.int (iI (bI all))), some (.int (iI ((cntB (fun k => f (r0 + k * p)) s : Nat) : Int))), some (.int (iI 0)), some (.int (iI ((j : Nat) : Int)))]) (B := fun j => wRw S a 0 (lnB f r0 p j false)) (fun _ => True) s True.intro (fun j hi68 hI68 ih68 => ?_) (fun hI68 => ?_)
          · have hi68 := hi68
            have hb2 := hr j hi68
            refine sL (pc' := 70) (i := .iload 7) rfl rfl ?_
            refine sL (pc' := 71) (i := .iload_n 3) rfl rfl ?_
            refine sIc_ge (p := 74) rfl rfl ⟨by omega, by omega⟩ ⟨by omega, by omega⟩ (fun c6 => ?_) (fun c6 => ?_)
            · exfalso; omega
            · have c6 := c6
              refine sL (pc' := 76) (i := .iload 6) rfl rfl ?_
              refine sIf_eq (p := 79) rfl rfl ⟨by omega, by omega⟩ (fun c7 => ?_) (fun c7 => ?_)
              · have c7 := c7
                refine sL (pc' := 93) (i := .aload_n 0) rfl rfl ?_
                refine sL (pc' := 94) (i := .iload_n 1) rfl rfl ?_
                refine sL (pc' := 96) (i := .iload 7) rfl rfl ?_
                refine sL (pc' := 97) (i := .iload_n 2) rfl rfl ?_
                refine sMu (p := 98) rfl rfl ?_
                refine sAd (p := 99) rfl rfl ?_
                refine sCs (p := 102) (as := [_, _]) rfl rfl rfl rfl (by decide) (Nat.le_of_ble_eq_true rfl) rfl (Nat.le_of_ble_eq_true rfl) rfl (by omega) (c_unmark (S := wRw S a 0 (lnB f r0 p j false)) (r := r0 + j * p) hk (rowS_wRw _ _ _ _) (by omega)) ?_
                refine sInX (z := ((j : Nat) : Int)) (ls' := [some (.ref a), some (.int (iI ((r0 : Nat) : Int))), some (.int (iI ((p : Nat) : Int))), some (.int (iI ((s : Nat) : Int))), some (.int (iI (bI all))), some (.int (iI ((cntB (fun k => f (r0 + k * p)) s : Nat) : Int))), some (.int (iI 0)), some (.int (iI (((j : Nat) : Int) + 1)))]) (p := 105) rfl rfl (Nat.le_of_ble_eq_true rfl) rfl rfl ?_
                refine sL (i := .goto (-37)) rfl rfl ?_
                refine sRo (ls := [some (.ref a), some (.int (iI ((r0 : Nat) : Int))), some (.int (iI ((p : Nat) : Int))), some (.int (iI ((s : Nat) : Int))), some (.int (iI (bI all))), some (.int (iI ((cntB (fun k => f (r0 + k * p)) s : Nat) : Int))), some (.int (iI 0)), some (.int (iI ((j + 1 : Nat) : Int)))]) (T := wRw S a 0 (lnB f r0 p (j + 1) false)) (And.intro rfl (And.intro rfl (And.intro rfl (And.intro rfl (And.intro rfl (And.intro rfl (And.intro rfl (And.intro rfl (True.intro))))))))) (congrArg sH lnB_f) (ih68 ?_)
                exact True.intro
              · exact absurd c7 (by decide)
          · have hI68 := hI68
            refine sL (pc' := 70) (i := .iload 7) rfl rfl ?_
            refine sL (pc' := 71) (i := .iload_n 3) rfl rfl ?_
            refine sIc_ge (p := 74) rfl rfl ⟨by omega, by omega⟩ ⟨by omega, by omega⟩ (fun c8 => ?_) (fun c8 => ?_)
            · have c8 := c8
              refine sEn (i := .return_) rfl (rfl) ?_
              exact ⟨rfl, by rw [hb]⟩
            · exfalso; omega
        · have c5 := c5
          have hb := bd_3 hall (show 0 < cntB (fun k => f (r0 + k * p)) s by omega)
          refine sKi (p := 59) rfl rfl ?_
          refine sL (i := .goto 4) rfl rfl ?_
          refine sL (pc' := 65) (i := .istore 6) (ls' := [some (.ref a), some (.int (iI ((r0 : Nat) : Int))), some (.int (iI ((p : Nat) : Int))), some (.int (iI ((s : Nat) : Int))), some (.int (iI (bI all))), some (.int (iI ((cntB (fun k => f (r0 + k * p)) s : Nat) : Int))), some (.int (iI 1)), none]) rfl rfl ?_
          refine sKi (p := 66) rfl rfl ?_
          refine sL (pc' := 68) (i := .istore 7) (ls' := [some (.ref a), some (.int (iI ((r0 : Nat) : Int))), some (.int (iI ((p : Nat) : Int))), some (.int (iI ((s : Nat) : Int))), some (.int (iI (bI all))), some (.int (iI ((cntB (fun k => f (r0 + k * p)) s : Nat) : Int))), some (.int (iI 1)), some (.int (iI 0))]) rfl rfl ?_
          refine sSh (T := wRw S a 0 (lnB f r0 p 0 true)) (congrArg sH (wRw_same hf).symm) ?_
          refine sIt (A := fun j => [some (.ref a), some (.int (iI ((r0 : Nat) : Int))), some (.int (iI ((p : Nat) : Int))), some (.int (iI ((s : Nat) : Int))), some (.int (iI (bI all))), some (.int (iI ((cntB (fun k => f (r0 + k * p)) s : Nat) : Int))), some (.int (iI 1)), some (.int (iI ((j : Nat) : Int)))]) (B := fun j => wRw S a 0 (lnB f r0 p j true)) (fun _ => True) s True.intro (fun j hi68 hI68 ih68 => ?_) (fun hI68 => ?_)
          · have hi68 := hi68
            have hb2 := hr j hi68
            refine sL (pc' := 70) (i := .iload 7) rfl rfl ?_
            refine sL (pc' := 71) (i := .iload_n 3) rfl rfl ?_
            refine sIc_ge (p := 74) rfl rfl ⟨by omega, by omega⟩ ⟨by omega, by omega⟩ (fun c9 => ?_) (fun c9 => ?_)
            · exfalso; omega
            · have c9 := c9
              refine sL (pc' := 76) (i := .iload 6) rfl rfl ?_
              refine sIf_eq (p := 79) rfl rfl ⟨by omega, by omega⟩ (fun c10 => ?_) (fun c10 => ?_)
              · exact absurd c10 (by decide)
              · have c10 := c10
                refine sL (pc' := 80) (i := .aload_n 0) rfl rfl ?_
                refine sL (pc' := 81) (i := .iload_n 1) rfl rfl ?_
                refine sL (pc' := 83) (i := .iload 7) rfl rfl ?_
                refine sL (pc' := 84) (i := .iload_n 2) rfl rfl ?_
                refine sMu (p := 85) rfl rfl ?_
                refine sAd (p := 86) rfl rfl ?_
                refine sCs (p := 89) (as := [_, _]) rfl rfl rfl rfl (by decide) (Nat.le_of_ble_eq_true rfl) rfl (Nat.le_of_ble_eq_true rfl) rfl (by omega) (c_mark (S := wRw S a 0 (lnB f r0 p j true)) (r := r0 + j * p) hk (rowS_wRw _ _ _ _) (by omega)) ?_
                refine sL (i := .goto 13) rfl rfl ?_
                refine sInX (z := ((j : Nat) : Int)) (ls' := [some (.ref a), some (.int (iI ((r0 : Nat) : Int))), some (.int (iI ((p : Nat) : Int))), some (.int (iI ((s : Nat) : Int))), some (.int (iI (bI all))), some (.int (iI ((cntB (fun k => f (r0 + k * p)) s : Nat) : Int))), some (.int (iI 1)), some (.int (iI (((j : Nat) : Int) + 1)))]) (p := 105) rfl rfl (Nat.le_of_ble_eq_true rfl) rfl rfl ?_
                refine sL (i := .goto (-37)) rfl rfl ?_
                refine sRo (ls := [some (.ref a), some (.int (iI ((r0 : Nat) : Int))), some (.int (iI ((p : Nat) : Int))), some (.int (iI ((s : Nat) : Int))), some (.int (iI (bI all))), some (.int (iI ((cntB (fun k => f (r0 + k * p)) s : Nat) : Int))), some (.int (iI 1)), some (.int (iI ((j + 1 : Nat) : Int)))]) (T := wRw S a 0 (lnB f r0 p (j + 1) true)) (And.intro rfl (And.intro rfl (And.intro rfl (And.intro rfl (And.intro rfl (And.intro rfl (And.intro rfl (And.intro rfl (True.intro))))))))) (congrArg sH lnB_t) (ih68 ?_)
                exact True.intro
          · have hI68 := hI68
            refine sL (pc' := 70) (i := .iload 7) rfl rfl ?_
            refine sL (pc' := 71) (i := .iload_n 3) rfl rfl ?_
            refine sIc_ge (p := 74) rfl rfl ⟨by omega, by omega⟩ ⟨by omega, by omega⟩ (fun c11 => ?_) (fun c11 => ?_)
            · have c11 := c11
              refine sEn (i := .return_) rfl (rfl) ?_
              exact ⟨rfl, by rw [hb]⟩
            · exfalso; omega
      · have c4 := c4
        have hall := c4
        refine sL (pc' := 41) (i := .iload 5) rfl rfl ?_
        refine sL (pc' := 42) (i := .iload_n 3) rfl rfl ?_
        refine sIc_ne (p := 45) rfl rfl ⟨by omega, by omega⟩ ⟨by omega, by omega⟩ (fun c12 => ?_) (fun c12 => ?_)
        · have c12 := c12
          have hb := bd_2 hall (show ¬ cntB (fun k => f (r0 + k * p)) s = s by omega)
          refine sKi (p := 50) rfl rfl ?_
          refine sL (i := .goto 13) rfl rfl ?_
          refine sL (pc' := 65) (i := .istore 6) (ls' := [some (.ref a), some (.int (iI ((r0 : Nat) : Int))), some (.int (iI ((p : Nat) : Int))), some (.int (iI ((s : Nat) : Int))), some (.int (iI (bI all))), some (.int (iI ((cntB (fun k => f (r0 + k * p)) s : Nat) : Int))), some (.int (iI 0)), none]) rfl rfl ?_
          refine sKi (p := 66) rfl rfl ?_
          refine sL (pc' := 68) (i := .istore 7) (ls' := [some (.ref a), some (.int (iI ((r0 : Nat) : Int))), some (.int (iI ((p : Nat) : Int))), some (.int (iI ((s : Nat) : Int))), some (.int (iI (bI all))), some (.int (iI ((cntB (fun k => f (r0 + k * p)) s : Nat) : Int))), some (.int (iI 0)), some (.int (iI 0))]) rfl rfl ?_
          refine sSh (T := wRw S a 0 (lnB f r0 p 0 false)) (congrArg sH (wRw_same hf).symm) ?_
          refine sIt (A := fun j => [some (.ref a), some (.int (iI ((r0 : Nat) : Int))), some (.int (iI ((p : Nat) : Int))), some (.int (iI ((s : Nat) : Int))), some (.int (iI (bI all))), some (.int (iI ((cntB (fun k => f (r0 + k * p)) s : Nat) : Int))), some (.int (iI 0)), some (.int (iI ((j : Nat) : Int)))]) (B := fun j => wRw S a 0 (lnB f r0 p j false)) (fun _ => True) s True.intro (fun j hi68 hI68 ih68 => ?_) (fun hI68 => ?_)
          · have hi68 := hi68
            have hb2 := hr j hi68
            refine sL (pc' := 70) (i := .iload 7) rfl rfl ?_
            refine sL (pc' := 71) (i := .iload_n 3) rfl rfl ?_
            refine sIc_ge (p := 74) rfl rfl ⟨by omega, by omega⟩ ⟨by omega, by omega⟩ (fun c13 => ?_) (fun c13 => ?_)
            · exfalso; omega
            · have c13 := c13
              refine sL (pc' := 76) (i := .iload 6) rfl rfl ?_
              refine sIf_eq (p := 79) rfl rfl ⟨by omega, by omega⟩ (fun c14 => ?_) (fun c14 => ?_)
              · have c14 := c14
                refine sL (pc' := 93) (i := .aload_n 0) rfl rfl ?_
                refine sL (pc' := 94) (i := .iload_n 1) rfl rfl ?_
                refine sL (pc' := 96) (i := .iload 7) rfl rfl ?_
                refine sL (pc' := 97) (i := .iload_n 2) rfl rfl ?_
                refine sMu (p := 98) rfl rfl ?_
                refine sAd (p := 99) rfl rfl ?_
                refine sCs (p := 102) (as := [_, _]) rfl rfl rfl rfl (by decide) (Nat.le_of_ble_eq_true rfl) rfl (Nat.le_of_ble_eq_true rfl) rfl (by omega) (c_unmark (S := wRw S a 0 (lnB f r0 p j false)) (r := r0 + j * p) hk (rowS_wRw _ _ _ _) (by omega)) ?_
                refine sInX (z := ((j : Nat) : Int)) (ls' := [some (.ref a), some (.int (iI ((r0 : Nat) : Int))), some (.int (iI ((p : Nat) : Int))), some (.int (iI ((s : Nat) : Int))), some (.int (iI (bI all))), some (.int (iI ((cntB (fun k => f (r0 + k * p)) s : Nat) : Int))), some (.int (iI 0)), some (.int (iI (((j : Nat) : Int) + 1)))]) (p := 105) rfl rfl (Nat.le_of_ble_eq_true rfl) rfl rfl ?_
                refine sL (i := .goto (-37)) rfl rfl ?_
                refine sRo (ls := [some (.ref a), some (.int (iI ((r0 : Nat) : Int))), some (.int (iI ((p : Nat) : Int))), some (.int (iI ((s : Nat) : Int))), some (.int (iI (bI all))), some (.int (iI ((cntB (fun k => f (r0 + k * p)) s : Nat) : Int))), some (.int (iI 0)), some (.int (iI ((j + 1 : Nat) : Int)))]) (T := wRw S a 0 (lnB f r0 p (j + 1) false)) (And.intro rfl (And.intro rfl (And.intro rfl (And.intro rfl (And.intro rfl (And.intro rfl (And.intro rfl (And.intro rfl (True.intro))))))))) (congrArg sH lnB_f) (ih68 ?_)
                exact True.intro
              · exact absurd c14 (by decide)
          · have hI68 := hI68
            refine sL (pc' := 70) (i := .iload 7) rfl rfl ?_
            refine sL (pc' := 71) (i := .iload_n 3) rfl rfl ?_
            refine sIc_ge (p := 74) rfl rfl ⟨by omega, by omega⟩ ⟨by omega, by omega⟩ (fun c15 => ?_) (fun c15 => ?_)
            · have c15 := c15
              refine sEn (i := .return_) rfl (rfl) ?_
              exact ⟨rfl, by rw [hb]⟩
            · exfalso; omega
        · have c12 := c12
          have hb := bd_1 hall (show cntB (fun k => f (r0 + k * p)) s = s by omega)
          refine sKi (p := 46) rfl rfl ?_
          refine sL (i := .goto 17) rfl rfl ?_
          refine sL (pc' := 65) (i := .istore 6) (ls' := [some (.ref a), some (.int (iI ((r0 : Nat) : Int))), some (.int (iI ((p : Nat) : Int))), some (.int (iI ((s : Nat) : Int))), some (.int (iI (bI all))), some (.int (iI ((cntB (fun k => f (r0 + k * p)) s : Nat) : Int))), some (.int (iI 1)), none]) rfl rfl ?_
          refine sKi (p := 66) rfl rfl ?_
          refine sL (pc' := 68) (i := .istore 7) (ls' := [some (.ref a), some (.int (iI ((r0 : Nat) : Int))), some (.int (iI ((p : Nat) : Int))), some (.int (iI ((s : Nat) : Int))), some (.int (iI (bI all))), some (.int (iI ((cntB (fun k => f (r0 + k * p)) s : Nat) : Int))), some (.int (iI 1)), some (.int (iI 0))]) rfl rfl ?_
          refine sSh (T := wRw S a 0 (lnB f r0 p 0 true)) (congrArg sH (wRw_same hf).symm) ?_
          refine sIt (A := fun j => [some (.ref a), some (.int (iI ((r0 : Nat) : Int))), some (.int (iI ((p : Nat) : Int))), some (.int (iI ((s : Nat) : Int))), some (.int (iI (bI all))), some (.int (iI ((cntB (fun k => f (r0 + k * p)) s : Nat) : Int))), some (.int (iI 1)), some (.int (iI ((j : Nat) : Int)))]) (B := fun j => wRw S a 0 (lnB f r0 p j true)) (fun _ => True) s True.intro (fun j hi68 hI68 ih68 => ?_) (fun hI68 => ?_)
          · have hi68 := hi68
            have hb2 := hr j hi68
            refine sL (pc' := 70) (i := .iload 7) rfl rfl ?_
            refine sL (pc' := 71) (i := .iload_n 3) rfl rfl ?_
            refine sIc_ge (p := 74) rfl rfl ⟨by omega, by omega⟩ ⟨by omega, by omega⟩ (fun c16 => ?_) (fun c16 => ?_)
            · exfalso; omega
            · have c16 := c16
              refine sL (pc' := 76) (i := .iload 6) rfl rfl ?_
              refine sIf_eq (p := 79) rfl rfl ⟨by omega, by omega⟩ (fun c17 => ?_) (fun c17 => ?_)
              · exact absurd c17 (by decide)
              · have c17 := c17
                refine sL (pc' := 80) (i := .aload_n 0) rfl rfl ?_
                refine sL (pc' := 81) (i := .iload_n 1) rfl rfl ?_
                refine sL (pc' := 83) (i := .iload 7) rfl rfl ?_
                refine sL (pc' := 84) (i := .iload_n 2) rfl rfl ?_
                refine sMu (p := 85) rfl rfl ?_
                refine sAd (p := 86) rfl rfl ?_
                refine sCs (p := 89) (as := [_, _]) rfl rfl rfl rfl (by decide) (Nat.le_of_ble_eq_true rfl) rfl (Nat.le_of_ble_eq_true rfl) rfl (by omega) (c_mark (S := wRw S a 0 (lnB f r0 p j true)) (r := r0 + j * p) hk (rowS_wRw _ _ _ _) (by omega)) ?_
                refine sL (i := .goto 13) rfl rfl ?_
                refine sInX (z := ((j : Nat) : Int)) (ls' := [some (.ref a), some (.int (iI ((r0 : Nat) : Int))), some (.int (iI ((p : Nat) : Int))), some (.int (iI ((s : Nat) : Int))), some (.int (iI (bI all))), some (.int (iI ((cntB (fun k => f (r0 + k * p)) s : Nat) : Int))), some (.int (iI 1)), some (.int (iI (((j : Nat) : Int) + 1)))]) (p := 105) rfl rfl (Nat.le_of_ble_eq_true rfl) rfl rfl ?_
                refine sL (i := .goto (-37)) rfl rfl ?_
                refine sRo (ls := [some (.ref a), some (.int (iI ((r0 : Nat) : Int))), some (.int (iI ((p : Nat) : Int))), some (.int (iI ((s : Nat) : Int))), some (.int (iI (bI all))), some (.int (iI ((cntB (fun k => f (r0 + k * p)) s : Nat) : Int))), some (.int (iI 1)), some (.int (iI ((j + 1 : Nat) : Int)))]) (T := wRw S a 0 (lnB f r0 p (j + 1) true)) (And.intro rfl (And.intro rfl (And.intro rfl (And.intro rfl (And.intro rfl (And.intro rfl (And.intro rfl (And.intro rfl (True.intro))))))))) (congrArg sH lnB_t) (ih68 ?_)
                exact True.intro
          · have hI68 := hI68
            refine sL (pc' := 70) (i := .iload 7) rfl rfl ?_
            refine sL (pc' := 71) (i := .iload_n 3) rfl rfl ?_
            refine sIc_ge (p := 74) rfl rfl ⟨by omega, by omega⟩ ⟨by omega, by omega⟩ (fun c18 => ?_) (fun c18 => ?_)
            · have c18 := c18
              refine sEn (i := .return_) rfl (rfl) ?_
              exact ⟨rfl, by rw [hb]⟩
            · exfalso; omega
    · exfalso; omega
theorem c_bind {v : Nat} {all : Bool} (hv : vC S n sz) (hk : kd S a = some (.inl (2, 16))) (hf : rowS S a 0 f) (hvv : v < n) : sM X 2 74 [.ref 7, .ref a, .int (iI (v : Nat)), .int (iI (bI all))] S (sV none (wRw S a 0 (fun r => if r < pr sz n then qnt sz all f v r else f r))) := by
  have hT0 := hv.1.2.2
  have hs6 := hv.1.2.1 v hvv
  refine sIni (ls := [some (.ref 7), some (.ref a), some (.int (iI ((v : Nat) : Int))), some (.int (iI (bI all))), none, none, none]) rfl ?_
  refine sL (pc' := 1) (i := .aload_n 0) rfl rfl ?_
  refine sGc (p := 4) rfl rfl (sk_7 _) rfl rfl rfl ?_
  refine sL (pc' := 5) (i := .iload_n 2) rfl rfl ?_
  refine sCv (p := 8) (as := [_]) rfl rfl rfl rfl (by decide) (Nat.le_of_ble_eq_true rfl) rfl (Nat.le_of_ble_eq_true rfl) (sk_1 _) rfl (by omega) (c_str (S := S) hv (v := v) (by assumption)) ?_
  refine sL (pc' := 10) (i := .istore 4) (ls' := [some (.ref 7), some (.ref a), some (.int (iI ((v : Nat) : Int))), some (.int (iI (bI all))), some (.int (iI ((pr sz v : Nat) : Int))), none, none]) rfl rfl ?_
  refine sL (pc' := 11) (i := .aload_n 0) rfl rfl ?_
  refine sGc (p := 14) rfl rfl (sk_7 _) rfl rfl rfl ?_
  refine sL (pc' := 15) (i := .iload_n 2) rfl rfl ?_
  refine sCv (p := 18) (as := [_]) rfl rfl rfl rfl (by decide) (Nat.le_of_ble_eq_true rfl) rfl (Nat.le_of_ble_eq_true rfl) (sk_1 _) rfl (by omega) (c_siz (S := S) hv (v := v) (by assumption)) ?_
  refine sL (pc' := 20) (i := .istore 5) (ls' := [some (.ref 7), some (.ref a), some (.int (iI ((v : Nat) : Int))), some (.int (iI (bI all))), some (.int (iI ((pr sz v : Nat) : Int))), some (.int (iI ((sz v : Nat) : Int))), none]) rfl rfl ?_
  refine sKi (p := 21) rfl rfl ?_
  refine sL (pc' := 23) (i := .istore 6) (ls' := [some (.ref 7), some (.ref a), some (.int (iI ((v : Nat) : Int))), some (.int (iI (bI all))), some (.int (iI ((pr sz v : Nat) : Int))), some (.int (iI ((sz v : Nat) : Int))), some (.int (iI 0))]) rfl rfl ?_
  refine sSh (T := wRw S a 0 (bnd sz (pr sz n) all f v 0)) (congrArg sH ((wRw_same hf).symm.trans (wRw_eq (fun r _ => (if_neg (fun z => absurd z.2 (Nat.not_lt_zero _))).symm)))) ?_
  refine sIt (A := fun i => [some (.ref 7), some (.ref a), some (.int (iI ((v : Nat) : Int))), some (.int (iI (bI all))), some (.int (iI ((pr sz v : Nat) : Int))), some (.int (iI ((sz v : Nat) : Int))), some (.int (iI ((i : Nat) : Int)))]) (B := fun i => wRw S a 0 (bnd sz (pr sz n) all f v i)) (fun _ => True) (pr sz n) True.intro (fun i hi23 hI23 ih23 => ?_) (fun hI23 => ?_)
  · have hi23 := hi23
    have hvl := hv.1.val hvv i
    refine sL (pc' := 25) (i := .iload 6) rfl rfl ?_
    refine sL (pc' := 26) (i := .aload_n 0) rfl rfl ?_
    refine sGc (p := 29) rfl rfl (sk_7 _) rfl rfl rfl ?_
    refine sGi (p := 32) rfl rfl (sk_1 _) rfl rfl rfl hv.2.2.1 ?_
    refine sIc_ge (p := 35) rfl rfl ⟨by omega, by omega⟩ ⟨by omega, by omega⟩ (fun c1 => ?_) (fun c1 => ?_)
    · exfalso; omega
    · have c1 := c1
      refine sL (pc' := 36) (i := .aload_n 0) rfl rfl ?_
      refine sGc (p := 39) rfl rfl (sk_7 _) rfl rfl rfl ?_
      refine sL (pc' := 41) (i := .iload 6) rfl rfl ?_
      refine sL (pc' := 42) (i := .iload_n 2) rfl rfl ?_
      refine sCv (p := 45) (as := [_, _]) rfl rfl rfl rfl (by decide) (Nat.le_of_ble_eq_true rfl) rfl (Nat.le_of_ble_eq_true rfl) (sk_1 _) rfl (by omega) (c_val (S := wRw S a 0 (bnd sz (pr sz n) all f v i)) hv (r := i) (v := v) (by omega) (by assumption)) ?_
      refine sIf_ne (p := 48) rfl rfl ⟨by omega, by omega⟩ (fun c2 => ?_) (fun c2 => ?_)
      · have c2 := c2
        have h0 : ¬ val sz i v = 0 := by omega
        refine sInX (z := ((i : Nat) : Int)) (ls' := [some (.ref 7), some (.ref a), some (.int (iI ((v : Nat) : Int))), some (.int (iI (bI all))), some (.int (iI ((pr sz v : Nat) : Int))), some (.int (iI ((sz v : Nat) : Int))), some (.int (iI (((i : Nat) : Int) + 1)))]) (p := 62) rfl rfl (Nat.le_of_ble_eq_true rfl) rfl rfl ?_
        refine sL (i := .goto (-39)) rfl rfl ?_
        refine sRo (ls := [some (.ref 7), some (.ref a), some (.int (iI ((v : Nat) : Int))), some (.int (iI (bI all))), some (.int (iI ((pr sz v : Nat) : Int))), some (.int (iI ((sz v : Nat) : Int))), some (.int (iI ((i + 1 : Nat) : Int)))]) (T := wRw S a 0 (bnd sz (pr sz n) all f v (i + 1))) (And.intro rfl (And.intro rfl (And.intro rfl (And.intro rfl (And.intro rfl (And.intro rfl (And.intro rfl (True.intro)))))))) (congrArg sH (bnd_n hv.1 hvv h0)) (ih23 ?_)
        exact True.intro
      · have c2 := c2
        have h0 : val sz i v = 0 := by omega
        refine sL (pc' := 49) (i := .aload_n 1) rfl rfl ?_
        refine sL (pc' := 51) (i := .iload 6) rfl rfl ?_
        refine sL (pc' := 53) (i := .iload 4) rfl rfl ?_
        refine sL (pc' := 55) (i := .iload 5) rfl rfl ?_
        refine sL (pc' := 56) (i := .iload_n 3) rfl rfl ?_
        refine sCs (p := 59) (as := [_, _, _, _, _]) rfl rfl rfl rfl (by decide) (Nat.le_of_ble_eq_true rfl) rfl (Nat.le_of_ble_eq_true rfl) rfl (by omega) (c_bindFrom (S := wRw S a 0 (bnd sz (pr sz n) all f v i)) (f := bnd sz (pr sz n) all f v i) hk (rowS_wRw _ _ _ _) (fun k hk2 => by rw [chg_0 h0]; have := chg_lt hv.1 hvv hk2 (show i < pr sz n from hi23); omega) hs6.2) ?_
        refine sInX (z := ((i : Nat) : Int)) (ls' := [some (.ref 7), some (.ref a), some (.int (iI ((v : Nat) : Int))), some (.int (iI (bI all))), some (.int (iI ((pr sz v : Nat) : Int))), some (.int (iI ((sz v : Nat) : Int))), some (.int (iI (((i : Nat) : Int) + 1)))]) (p := 62) rfl rfl (Nat.le_of_ble_eq_true rfl) rfl rfl ?_
        refine sL (i := .goto (-39)) rfl rfl ?_
        refine sRo (ls := [some (.ref 7), some (.ref a), some (.int (iI ((v : Nat) : Int))), some (.int (iI (bI all))), some (.int (iI ((pr sz v : Nat) : Int))), some (.int (iI ((sz v : Nat) : Int))), some (.int (iI ((i + 1 : Nat) : Int)))]) (T := wRw S a 0 (bnd sz (pr sz n) all f v (i + 1))) (And.intro rfl (And.intro rfl (And.intro rfl (And.intro rfl (And.intro rfl (And.intro rfl (And.intro rfl (True.intro)))))))) (congrArg sH (bnd_s hv.1 hvv hi23 h0)) (ih23 ?_)
        exact True.intro
  · have hI23 := hI23
    refine sL (pc' := 25) (i := .iload 6) rfl rfl ?_
    refine sL (pc' := 26) (i := .aload_n 0) rfl rfl ?_
    refine sGc (p := 29) rfl rfl (sk_7 _) rfl rfl rfl ?_
    refine sGi (p := 32) rfl rfl (sk_1 _) rfl rfl rfl hv.2.2.1 ?_
    refine sIc_ge (p := 35) rfl rfl ⟨by omega, by omega⟩ ⟨by omega, by omega⟩ (fun c3 => ?_) (fun c3 => ?_)
    · have c3 := c3
      refine sEn (i := .return_) rfl (rfl) ?_
      exact ⟨rfl, congrArg sH (bnd_T hv.1 hvv)⟩
    · exfalso; omega
def trB (n : Nat) (sz : Nat → Nat) (x : Int) : Nat → Bool := fun b => !iB (iI x) b || decide (b < n ∧ sz b = 2)
theorem c_areTruths {x : Int} (hv : vC S n sz) (hx : rg x) : sM X 1 17 [.ref 1, .int (iI x)] S (sV (some (.int (iI (bI (allB (trB n sz x) 32))))) S) := by
  refine sIni (ls := [some (.ref 1), some (.int (iI x)), none]) rfl ?_
  refine sKi (p := 1) rfl rfl ?_
  refine sL (pc' := 2) (i := .istore_n 2) (ls' := [some (.ref 1), some (.int (iI x)), some (.int (iI 0))]) rfl rfl ?_
  refine sIt (A := fun i => [some (.ref 1), some (.int (iI x)), some (.int (iI ((i : Nat) : Int)))]) (B := fun _ => S) (fun i => allB (trB n sz x) i = true) 32 rfl (fun i hi2 hI2 ih2 => ?_) (fun hI2 => ?_)
  · have hi2 := hi2
    refine sL (pc' := 3) (i := .iload_n 2) rfl rfl ?_
    refine sKb (p := 5) rfl rfl ?_
    refine sIc_ge (p := 8) rfl rfl ⟨by omega, by omega⟩ ⟨by omega, by omega⟩ (fun c1 => ?_) (fun c1 => ?_)
    · exfalso; omega
    · have c1 := c1
      refine sL (pc' := 9) (i := .iload_n 1) rfl rfl ?_
      refine sL (pc' := 10) (i := .iload_n 2) rfl rfl ?_
      refine sMb (p := 13) (j := i) rfl rfl rfl rfl rfl rfl (by omega) ?_
      refine sBe (p := 16) rfl rfl (fun c2 => ?_) (fun c2 => ?_)
      · have c2 := c2
        have ht : trB n sz x i = true := by unfold trB; rw [c2]; rfl
        refine sInX (z := ((i : Nat) : Int)) (ls' := [some (.ref 1), some (.int (iI x)), some (.int (iI (((i : Nat) : Int) + 1)))]) (p := 30) rfl rfl (Nat.le_of_ble_eq_true rfl) rfl rfl ?_
        refine sL (i := .goto (-28)) rfl rfl ?_
        refine sRo (ls := [some (.ref 1), some (.int (iI x)), some (.int (iI ((i + 1 : Nat) : Int)))]) (T := _) (And.intro rfl (And.intro rfl (And.intro rfl (True.intro)))) (rfl) (ih2 ?_)
        show (allB (trB n sz x) i && trB n sz x i) = true
        rw [hI2, ht]
        rfl
      · have c2 := c2
        refine sL (pc' := 17) (i := .aload_n 0) rfl rfl ?_
        refine sL (pc' := 18) (i := .iload_n 2) rfl rfl ?_
        refine sCv (p := 21) (as := [_]) rfl rfl rfl rfl (by decide) (Nat.le_of_ble_eq_true rfl) rfl (Nat.le_of_ble_eq_true rfl) (sk_1 _) rfl (by omega) (c_sizeOf hv (x := (i : Int)) ⟨by omega, by omega⟩) ?_
        have hsb : (if 0 ≤ (i : Int) ∧ (i : Int) < n then ((sz (i : Int).toNat : Nat) : Int) else 0) = if i < n then ((sz i : Nat) : Int) else 0 := by by_cases c : i < n; (rw [if_pos c, if_pos (by omega)]; rfl); (rw [if_neg c, if_neg (by omega)])
        rw [hsb]
        have hsr : rg (if i < n then ((sz i : Nat) : Int) else 0) := by by_cases c : i < n; (rw [if_pos c]; have := hv.1.2.1 i c; exact ⟨by omega, by omega⟩); (rw [if_neg c]; exact ⟨by omega, by omega⟩)
        refine sKi (p := 22) rfl rfl ?_
        refine sIc_eq (p := 25) rfl rfl hsr ⟨by omega, by omega⟩ (fun c3 => ?_) (fun c3 => ?_)
        · have c3 := c3
          have ht : trB n sz x i = true := by
            unfold trB
            by_cases c9 : i < n
            · rw [if_pos c9] at c3
              rw [decide_eq_true ⟨c9, by omega⟩, Bool.or_true]
            · rw [if_neg c9] at c3
              omega
          refine sInX (z := ((i : Nat) : Int)) (ls' := [some (.ref 1), some (.int (iI x)), some (.int (iI (((i : Nat) : Int) + 1)))]) (p := 30) rfl rfl (Nat.le_of_ble_eq_true rfl) rfl rfl ?_
          refine sL (i := .goto (-28)) rfl rfl ?_
          refine sRo (ls := [some (.ref 1), some (.int (iI x)), some (.int (iI ((i + 1 : Nat) : Int)))]) (T := _) (And.intro rfl (And.intro rfl (And.intro rfl (True.intro)))) (rfl) (ih2 ?_)
          show (allB (trB n sz x) i && trB n sz x i) = true
          rw [hI2, ht]
          rfl
        · have c3 := c3
          have ht : trB n sz x i = false := by
            unfold trB
            rw [show iB (iI x) i = true from by assumption, decide_eq_false]
            · rfl
            · rintro ⟨c9, c8⟩
              rw [if_pos c9] at c3
              omega
          refine sKi (p := 26) rfl rfl ?_
          refine sEn (i := .ireturn) rfl (rfl) ?_
          have hh : allB (trB n sz x) 32 = false := by
            cases e : allB (trB n sz x) 32 with
            | false => rfl
            | true => exact absurd (allB_iff.mp e i (by omega)) (by rw [ht]; decide)
          exact ⟨by rw [hh]; rfl, rfl⟩
  · have hI2 := hI2
    refine sL (pc' := 3) (i := .iload_n 2) rfl rfl ?_
    refine sKb (p := 5) rfl rfl ?_
    refine sIc_ge (p := 8) rfl rfl ⟨by omega, by omega⟩ ⟨by omega, by omega⟩ (fun c4 => ?_) (fun c4 => ?_)
    · have c4 := c4
      refine sKi (p := 34) rfl rfl ?_
      refine sEn (i := .ireturn) rfl (rfl) ?_
      exact ⟨by rw [hI2]; rfl, rfl⟩
    · exact absurd c4 (by decide)
end FB
