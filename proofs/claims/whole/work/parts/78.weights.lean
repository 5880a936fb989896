/-! ===== Choices: weights, what is ruled out, runs weighed ===== -/
def fac (wt : Nat → Int) (ro : Nat → Bool) (v k : Nat) : Int := if ro (v * 6 + k) then 0 else wt (v * 6 + k)
def wq (sz : Nat → Nat) (wt : Nat → Int) (ro : Nat → Bool) : Nat → Nat → Int
  | 0, _ => 1
  | v + 1, r => wq sz wt ro v r * fac wt ro v (val sz r v)
def wC (S : ST) (wt : Nat → Int) (ro : Nat → Bool) : Prop := ∀ i, i < 60 → SI S 4 i = wt i ∧ SI S 5 i = bI (ro i) ∧ 0 ≤ wt i ∧ wt i ≤ 30
def spr (S : ST) (b i : Nat) (F : Int) : ST := wLA S 6 (fun r => if b ≤ r ∧ r < b + i then SL S 6 (r - b) * lI F else SL S 6 r)
theorem SL_spr (S : ST) (b i : Nat) (F : Int) (r : Nat) : SL (spr S b i F) 6 r = if b ≤ r ∧ r < b + i then SL S 6 (r - b) * lI F else SL S 6 r := rfl
theorem spr_0 (S : ST) (b : Nat) (F : Int) : spr S b 0 F = S := st_ext rfl rfl (funext fun a => funext fun k => by
  unfold spr
  rw [SL_wLA]
  by_cases h : a = 6
  · subst h
    rw [if_pos rfl]
    exact if_neg (by omega)
  · rw [if_neg h]) rfl
theorem wL_wLA {S : ST} {a i : Nat} {f g : Nat → Int64} {x : Int64} (h : ∀ k, (if k = i then x else f k) = g k) : wL (wLA S a f) a i x = wLA S a g := st_ext rfl rfl (funext fun b => funext fun k => by
  rw [SL_wL, SL_wLA, SL_wLA]
  by_cases hb : b = a
  · subst hb
    rw [if_pos rfl, if_pos rfl, ← h k]
    by_cases hk : k = i
    · rw [if_pos ⟨rfl, hk⟩, if_pos hk]
    · rw [if_neg (fun z => hk z.2), if_neg hk]
  · rw [if_neg (fun z => hb z.1), if_neg hb, if_neg hb]) rfl
theorem spr_s {S : ST} {b i : Nat} {F : Int} {x : Int64} (hx : x = SL S 6 i * lI F) : wL (spr S b i F) 6 (b + i) x = spr S b (i + 1) F := wL_wLA (fun k => by
  subst hx
  by_cases h : k = b + i
  · subst h
    rw [if_pos rfl, if_pos ⟨by omega, by omega⟩, Nat.add_sub_cancel_left]
  · rw [if_neg h]
    by_cases c : b ≤ k ∧ k < b + i
    · rw [if_pos c, if_pos ⟨c.1, by omega⟩]
    · rw [if_neg c, if_neg (by omega)])
section WT
variable {X : List Int32} {S : ST} {n : Nat} {sz : Nat → Nat} {wt : Nat → Int} {ro : Nat → Bool}
theorem c_spreadWeight (hv : vC S n sz) (hw : wC S wt ro) {v k : Nat} (hvv : v < n) (hk : k < sz v) : sM X 0 24 [.ref 1, .int (iI (v : Nat)), .int (iI (k : Nat))] S (sV none (spr S (k * pr sz v) (pr sz v) (fac wt ro v k))) := by
  have hn := hv.1.1
  have hs := hv.1.2.1 v hvv
  have hp := hv.1.le2 (i := v + 1) (by omega)
  have hb : (k + 1) * pr sz v ≤ sz v * pr sz v := Nat.mul_le_mul_right _ hk
  rw [Nat.add_mul, Nat.one_mul] at hb
  rw [pr_succ, Nat.mul_comm] at hp
  have hwv := (hw (v * 6 + k) (by omega)).2.2
  have hz : k ≠ 0 → pr sz v ≤ k * pr sz v := fun z => Nat.le_mul_of_pos_left _ (by omega)
  refine sIni (ls := [some (.ref 1), some (.int (iI ((v : Nat) : Int))), some (.int (iI ((k : Nat) : Int))), none, none, none, none, none]) rfl ?_
  refine sL (pc' := 1) (i := .iload_n 1) rfl rfl ?_
  refine sKb (p := 3) rfl rfl ?_
  refine sMu (p := 4) rfl rfl ?_
  refine sL (pc' := 5) (i := .iload_n 2) rfl rfl ?_
  refine sAd (p := 6) rfl rfl ?_
  refine sL (pc' := 7) (i := .istore_n 3) (ls' := [some (.ref 1), some (.int (iI ((v : Nat) : Int))), some (.int (iI ((k : Nat) : Int))), some (.int (iI ((((v : Nat) : Int) * 6) + ((k : Nat) : Int)))), none, none, none, none]) rfl rfl ?_
  refine sL (pc' := 8) (i := .aload_n 0) rfl rfl ?_
  refine sGc (p := 11) rfl rfl (sk_1 _) rfl rfl rfl ?_
  refine sL (pc' := 12) (i := .iload_n 3) rfl rfl ?_
  refine sAb (p := 13) (i := (v * 6) + k) rfl rfl (sk_5 _) (Or.inl rfl) (by omega) ⟨by omega, by omega⟩ (hw _ (by omega)).2.1 ?_
  refine sBe (p := 16) rfl rfl (fun c1 => ?_) (fun c1 => ?_)
  · have c1 := c1
    have e1 : fac wt ro v k = wt (v * 6 + k) := by unfold fac; rw [c1]; rfl
    refine sL (pc' := 21) (i := .aload_n 0) rfl rfl ?_
    refine sGc (p := 24) rfl rfl (sk_1 _) rfl rfl rfl ?_
    refine sL (pc' := 25) (i := .iload_n 3) rfl rfl ?_
    refine sAi (p := 26) (i := (v * 6) + k) rfl rfl (sk_4 _) (by omega) ⟨by omega, by omega⟩ (hw _ (by omega)).1 ?_
    refine sI2l (p := 27) rfl rfl ⟨by omega, by omega⟩ ?_
    rw [← e1]
    refine sL (pc' := 29) (i := .lstore 4) (ls' := [some (.ref 1), some (.int (iI ((v : Nat) : Int))), some (.int (iI ((k : Nat) : Int))), some (.int (iI ((((v : Nat) : Int) * 6) + ((k : Nat) : Int)))), some (.long (lI (fac wt ro v k))), none, none, none]) rfl rfl ?_
    refine sL (pc' := 30) (i := .aload_n 0) rfl rfl ?_
    refine sGc (p := 33) rfl rfl (sk_1 _) rfl rfl rfl ?_
    refine sL (pc' := 34) (i := .iload_n 1) rfl rfl ?_
    refine sAi (p := 35) (i := v) rfl rfl (sk_3 _) (by omega) ⟨by omega, by omega⟩ (hv.2.2.2.2 _ (by omega)) ?_
    refine sL (pc' := 37) (i := .istore 6) (ls' := [some (.ref 1), some (.int (iI ((v : Nat) : Int))), some (.int (iI ((k : Nat) : Int))), some (.int (iI ((((v : Nat) : Int) * 6) + ((k : Nat) : Int)))), some (.long (lI (fac wt ro v k))), none, some (.int (iI ((pr sz v : Nat) : Int))), none]) rfl rfl ?_
    refine sKi (p := 38) rfl rfl ?_
    refine sL (pc' := 40) (i := .istore 7) (ls' := [some (.ref 1), some (.int (iI ((v : Nat) : Int))), some (.int (iI ((k : Nat) : Int))), some (.int (iI ((((v : Nat) : Int) * 6) + ((k : Nat) : Int)))), some (.long (lI (fac wt ro v k))), none, some (.int (iI ((pr sz v : Nat) : Int))), some (.int (iI 0))]) rfl rfl ?_
    refine sSh (T := spr S (k * pr sz v) 0 (fac wt ro v k)) (congrArg sH (spr_0 _ _ _).symm) ?_
    refine sIt (A := fun i => [some (.ref 1), some (.int (iI ((v : Nat) : Int))), some (.int (iI ((k : Nat) : Int))), some (.int (iI ((((v : Nat) : Int) * 6) + ((k : Nat) : Int)))), some (.long (lI (fac wt ro v k))), none, some (.int (iI ((pr sz v : Nat) : Int))), some (.int (iI ((i : Nat) : Int)))]) (B := fun i => spr S (k * pr sz v) i (fac wt ro v k)) (fun _ => True) (pr sz v) True.intro (fun i hi40 hI40 ih40 => ?_) (fun hI40 => ?_)
    · have hi40 := hi40
      have hz0 : k = 0 → k * pr sz v = 0 := fun z => by rw [z, Nat.zero_mul]
      refine sL (pc' := 42) (i := .iload 7) rfl rfl ?_
      refine sL (pc' := 44) (i := .iload 6) rfl rfl ?_
      refine sIc_ge (p := 47) rfl rfl ⟨by omega, by omega⟩ ⟨by omega, by omega⟩ (fun c2 => ?_) (fun c2 => ?_)
      · exfalso; omega
      · have c2 := c2
        refine sL (pc' := 48) (i := .aload_n 0) rfl rfl ?_
        refine sGc (p := 51) rfl rfl (sk_1 _) rfl rfl rfl ?_
        refine sL (pc' := 52) (i := .iload_n 2) rfl rfl ?_
        refine sL (pc' := 54) (i := .iload 6) rfl rfl ?_
        refine sMu (p := 55) rfl rfl ?_
        refine sL (pc' := 57) (i := .iload 7) rfl rfl ?_
        refine sAd (p := 58) rfl rfl ?_
        refine sL (pc' := 59) (i := .aload_n 0) rfl rfl ?_
        refine sGc (p := 62) rfl rfl (sk_1 _) rfl rfl rfl ?_
        refine sL (pc' := 64) (i := .iload 7) rfl rfl ?_
        refine sAl (p := 65) (i := i) rfl rfl (sk_6 _) (by omega) ⟨by omega, by omega⟩ ((SL_spr _ _ _ _ _).trans (if_neg (by omega))) ?_
        refine sL (pc' := 67) (i := .lload 4) rfl rfl ?_
        refine sL (pc' := 68) (i := .lmul) rfl rfl ?_
        refine sWl (p := 69) (i := (k * (pr sz v)) + i) rfl rfl (sk_6 _) (by omega) ⟨by omega, by omega⟩ ?_
        refine sInX (z := ((i : Nat) : Int)) (ls' := [some (.ref 1), some (.int (iI ((v : Nat) : Int))), some (.int (iI ((k : Nat) : Int))), some (.int (iI ((((v : Nat) : Int) * 6) + ((k : Nat) : Int)))), some (.long (lI (fac wt ro v k))), none, some (.int (iI ((pr sz v : Nat) : Int))), some (.int (iI (((i : Nat) : Int) + 1)))]) (p := 72) rfl rfl (Nat.le_of_ble_eq_true rfl) rfl rfl ?_
        refine sL (i := .goto (-32)) rfl rfl ?_
        refine sRo (ls := [some (.ref 1), some (.int (iI ((v : Nat) : Int))), some (.int (iI ((k : Nat) : Int))), some (.int (iI ((((v : Nat) : Int) * 6) + ((k : Nat) : Int)))), some (.long (lI (fac wt ro v k))), none, some (.int (iI ((pr sz v : Nat) : Int))), some (.int (iI ((i + 1 : Nat) : Int)))]) (T := spr S (k * pr sz v) (i + 1) (fac wt ro v k)) (And.intro rfl (And.intro rfl (And.intro rfl (And.intro rfl (And.intro rfl (And.intro rfl (And.intro rfl (True.intro)))))))) (congrArg sH (spr_s rfl)) (ih40 ?_)
        exact True.intro
    · have hI40 := hI40
      refine sL (pc' := 42) (i := .iload 7) rfl rfl ?_
      refine sL (pc' := 44) (i := .iload 6) rfl rfl ?_
      refine sIc_ge (p := 47) rfl rfl ⟨by omega, by omega⟩ ⟨by omega, by omega⟩ (fun c3 => ?_) (fun c3 => ?_)
      · have c3 := c3
        refine sEn (i := .return_) rfl (rfl) ?_
        exact ⟨rfl, rfl⟩
      · exfalso; omega
  · have c1 := c1
    have e1 : fac wt ro v k = 0 := by unfold fac; rw [c1]; rfl
    refine sKj0 (p := 17) rfl rfl rfl ?_
    rw [show lI 0 = lI (fac wt ro v k) from by rw [e1]]
    refine sL (i := .goto 10) rfl rfl ?_
    refine sL (pc' := 29) (i := .lstore 4) (ls' := [some (.ref 1), some (.int (iI ((v : Nat) : Int))), some (.int (iI ((k : Nat) : Int))), some (.int (iI ((((v : Nat) : Int) * 6) + ((k : Nat) : Int)))), some (.long (lI (fac wt ro v k))), none, none, none]) rfl rfl ?_
    refine sL (pc' := 30) (i := .aload_n 0) rfl rfl ?_
    refine sGc (p := 33) rfl rfl (sk_1 _) rfl rfl rfl ?_
    refine sL (pc' := 34) (i := .iload_n 1) rfl rfl ?_
    refine sAi (p := 35) (i := v) rfl rfl (sk_3 _) (by omega) ⟨by omega, by omega⟩ (hv.2.2.2.2 _ (by omega)) ?_
    refine sL (pc' := 37) (i := .istore 6) (ls' := [some (.ref 1), some (.int (iI ((v : Nat) : Int))), some (.int (iI ((k : Nat) : Int))), some (.int (iI ((((v : Nat) : Int) * 6) + ((k : Nat) : Int)))), some (.long (lI (fac wt ro v k))), none, some (.int (iI ((pr sz v : Nat) : Int))), none]) rfl rfl ?_
    refine sKi (p := 38) rfl rfl ?_
    refine sL (pc' := 40) (i := .istore 7) (ls' := [some (.ref 1), some (.int (iI ((v : Nat) : Int))), some (.int (iI ((k : Nat) : Int))), some (.int (iI ((((v : Nat) : Int) * 6) + ((k : Nat) : Int)))), some (.long (lI (fac wt ro v k))), none, some (.int (iI ((pr sz v : Nat) : Int))), some (.int (iI 0))]) rfl rfl ?_
    refine sSh (T := spr S (k * pr sz v) 0 (fac wt ro v k)) (congrArg sH (spr_0 _ _ _).symm) ?_
    refine sIt (A := fun i => [some (.ref 1), some (.int (iI ((v : Nat) : Int))), some (.int (iI ((k : Nat) : Int))), some (.int (iI ((((v : Nat) : Int) * 6) + ((k : Nat) : Int)))), some (.long (lI (fac wt ro v k))), none, some (.int (iI ((pr sz v : Nat) : Int))), some (.int (iI ((i : Nat) : Int)))]) (B := fun i => spr S (k * pr sz v) i (fac wt ro v k)) (fun _ => True) (pr sz v) True.intro (fun i hi40 hI40 ih40 => ?_) (fun hI40 => ?_)
    · have hi40 := hi40
      have hz0 : k = 0 → k * pr sz v = 0 := fun z => by rw [z, Nat.zero_mul]
      refine sL (pc' := 42) (i := .iload 7) rfl rfl ?_
      refine sL (pc' := 44) (i := .iload 6) rfl rfl ?_
      refine sIc_ge (p := 47) rfl rfl ⟨by omega, by omega⟩ ⟨by omega, by omega⟩ (fun c4 => ?_) (fun c4 => ?_)
      · exfalso; omega
      · have c4 := c4
        refine sL (pc' := 48) (i := .aload_n 0) rfl rfl ?_
        refine sGc (p := 51) rfl rfl (sk_1 _) rfl rfl rfl ?_
        refine sL (pc' := 52) (i := .iload_n 2) rfl rfl ?_
        refine sL (pc' := 54) (i := .iload 6) rfl rfl ?_
        refine sMu (p := 55) rfl rfl ?_
        refine sL (pc' := 57) (i := .iload 7) rfl rfl ?_
        refine sAd (p := 58) rfl rfl ?_
        refine sL (pc' := 59) (i := .aload_n 0) rfl rfl ?_
        refine sGc (p := 62) rfl rfl (sk_1 _) rfl rfl rfl ?_
        refine sL (pc' := 64) (i := .iload 7) rfl rfl ?_
        refine sAl (p := 65) (i := i) rfl rfl (sk_6 _) (by omega) ⟨by omega, by omega⟩ ((SL_spr _ _ _ _ _).trans (if_neg (by omega))) ?_
        refine sL (pc' := 67) (i := .lload 4) rfl rfl ?_
        refine sL (pc' := 68) (i := .lmul) rfl rfl ?_
        refine sWl (p := 69) (i := (k * (pr sz v)) + i) rfl rfl (sk_6 _) (by omega) ⟨by omega, by omega⟩ ?_
        refine sInX (z := ((i : Nat) : Int)) (ls' := [some (.ref 1), some (.int (iI ((v : Nat) : Int))), some (.int (iI ((k : Nat) : Int))), some (.int (iI ((((v : Nat) : Int) * 6) + ((k : Nat) : Int)))), some (.long (lI (fac wt ro v k))), none, some (.int (iI ((pr sz v : Nat) : Int))), some (.int (iI (((i : Nat) : Int) + 1)))]) (p := 72) rfl rfl (Nat.le_of_ble_eq_true rfl) rfl rfl ?_
        refine sL (i := .goto (-32)) rfl rfl ?_
        refine sRo (ls := [some (.ref 1), some (.int (iI ((v : Nat) : Int))), some (.int (iI ((k : Nat) : Int))), some (.int (iI ((((v : Nat) : Int) * 6) + ((k : Nat) : Int)))), some (.long (lI (fac wt ro v k))), none, some (.int (iI ((pr sz v : Nat) : Int))), some (.int (iI ((i + 1 : Nat) : Int)))]) (T := spr S (k * pr sz v) (i + 1) (fac wt ro v k)) (And.intro rfl (And.intro rfl (And.intro rfl (And.intro rfl (And.intro rfl (And.intro rfl (And.intro rfl (True.intro)))))))) (congrArg sH (spr_s rfl)) (ih40 ?_)
        exact True.intro
    · have hI40 := hI40
      refine sL (pc' := 42) (i := .iload 7) rfl rfl ?_
      refine sL (pc' := 44) (i := .iload 6) rfl rfl ?_
      refine sIc_ge (p := 47) rfl rfl ⟨by omega, by omega⟩ ⟨by omega, by omega⟩ (fun c5 => ?_) (fun c5 => ?_)
      · have c5 := c5
        refine sEn (i := .return_) rfl (rfl) ?_
        exact ⟨rfl, rfl⟩
      · exfalso; omega
/-- the cells of runs, the values from the j last of v on being done -/
def wgj (S : ST) (sz : Nat → Nat) (wt : Nat → Int) (ro : Nat → Bool) (v j : Nat) : ST := wLA S 6 (fun r => if (sz v - j) * pr sz v ≤ r ∧ r < pr sz (v + 1) then lI (wq sz wt ro (v + 1) r) else if r < pr sz v then lI (wq sz wt ro v r) else SL S 6 r)
def wgv (S : ST) (sz : Nat → Nat) (wt : Nat → Int) (ro : Nat → Bool) (v : Nat) : ST := wLA S 6 (fun r => if r < pr sz v then lI (wq sz wt ro v r) else SL S 6 r)
def wgh (S : ST) (n : Nat) (sz : Nat → Nat) (wt : Nat → Int) (ro : Nat → Bool) : ST := wI (wgv S sz wt ro n) 1 5 (bI true)
theorem wgj_0 (S : ST) (sz : Nat → Nat) (wt : Nat → Int) (ro : Nat → Bool) (v : Nat) : wgj S sz wt ro v 0 = wgv S sz wt ro v := by
  unfold wgj wgv
  refine congrArg (wLA S 6) (funext fun r => ?_)
  rw [Nat.sub_zero, if_neg]
  rw [pr_succ, Nat.mul_comm (pr sz v)]
  omega
theorem wgj_n (S : ST) (sz : Nat → Nat) (wt : Nat → Int) (ro : Nat → Bool) {v : Nat} (hs : 0 < sz v) : wgj S sz wt ro v (sz v) = wgv S sz wt ro (v + 1) := by
  unfold wgj wgv
  refine congrArg (wLA S 6) (funext fun r => ?_)
  rw [Nat.sub_self, Nat.zero_mul]
  have h : pr sz v ≤ pr sz (v + 1) := by
    rw [pr_succ]
    exact Nat.le_mul_of_pos_right _ hs
  by_cases c : r < pr sz (v + 1)
  · rw [if_pos ⟨by omega, c⟩, if_pos c]
  · rw [if_neg (fun z => c z.2), if_neg c, if_neg (by omega)]
theorem wLA_wLA (S : ST) (a : Nat) (f g : Nat → Int64) : wLA (wLA S a f) a g = wLA S a g := st_ext rfl rfl (funext fun b => by
  rw [SL_wLA, SL_wLA, SL_wLA]
  by_cases h : b = a
  · rw [if_pos h, if_pos h]
  · rw [if_neg h, if_neg h, if_neg h]) rfl
theorem wq_mod (sz : Nat → Nat) (wt : Nat → Int) (ro : Nat → Bool) {v r s : Nat} : (∀ u, u < v → val sz r u = val sz s u) → wq sz wt ro v r = wq sz wt ro v s := by
  induction v with
  | zero => intro _; rfl
  | succ v ih =>
    intro h
    show wq sz wt ro v r * fac wt ro v (val sz r v) = wq sz wt ro v s * fac wt ro v (val sz s v)
    rw [ih (fun u hu => h u (by omega)), h v (by omega)]
theorem wgj_s {S : ST} {v j k : Nat} (hp : 0 < pr sz v) (hj : j < sz v) (hk : k = sz v - 1 - j) : spr (wgj S sz wt ro v j) (k * pr sz v) (pr sz v) (fac wt ro v k) = wgj S sz wt ro v (j + 1) := by
  unfold spr wgj
  rw [wLA_wLA]
  refine congrArg (wLA S 6) (funext fun r => ?_)
  have e : sz v - j = k + 1 := by omega
  have e2 : sz v - (j + 1) = k := by omega
  have hb : (k + 1) * pr sz v ≤ sz v * pr sz v := Nat.mul_le_mul_right _ (by omega)
  have hq : pr sz (v + 1) = sz v * pr sz v := by rw [pr_succ, Nat.mul_comm]
  rw [e, e2, hq, Nat.add_mul, Nat.one_mul]
  rw [Nat.add_mul, Nat.one_mul] at hb
  simp only [SL_wLA_s]
  by_cases c : k * pr sz v ≤ r ∧ r < k * pr sz v + pr sz v
  · have hlt : r - k * pr sz v < pr sz v := by omega
    rw [if_pos c, if_neg (show ¬ (k * pr sz v + pr sz v ≤ r - k * pr sz v ∧ r - k * pr sz v < sz v * pr sz v) by omega), if_pos hlt, if_pos (show k * pr sz v ≤ r ∧ r < sz v * pr sz v by omega), lI_mul]
    have er : r = k * pr sz v + (r - k * pr sz v) := by omega
    have hd : r / pr sz v = k := by
      rw [er, Nat.add_comm, Nat.add_mul_div_right _ _ hp, Nat.div_eq_of_lt hlt, Nat.zero_add]
    have hv : val sz r v = k := by
      unfold val
      rw [hd]
      exact Nat.mod_eq_of_lt (by omega)
    have hm : r % pr sz v = r - k * pr sz v := by
      rw [er, Nat.add_comm, Nat.add_mul_mod_self_right, Nat.mod_eq_of_lt hlt]
      omega
    show _ = lI (wq sz wt ro v r * fac wt ro v (val sz r v))
    rw [hv, wq_mod sz wt ro (r := r) (s := r - k * pr sz v)]
    intro u hu
    rw [← hm, val_mod hu]
  · rw [if_neg c]
    by_cases c2 : k * pr sz v + pr sz v ≤ r ∧ r < sz v * pr sz v
    · rw [if_pos c2, if_pos (show k * pr sz v ≤ r ∧ r < sz v * pr sz v by omega)]
    · rw [if_neg c2, if_neg (show ¬ (k * pr sz v ≤ r ∧ r < sz v * pr sz v) by omega)]
theorem wgv_0 {S : ST} (h : SL S 6 0 = lI 1) : wgv S sz wt ro 0 = S := st_ext rfl rfl (funext fun b => funext fun k => by
  unfold wgv
  rw [SL_wLA]
  by_cases hb : b = 6
  · subst hb
    rw [if_pos rfl]
    by_cases hk : k < pr sz 0
    · have : k = 0 := by have : pr sz 0 = 1 := rfl; omega
      subst this
      rw [if_pos hk, h]
      rfl
    · rw [if_neg hk]
  · rw [if_neg hb]) rfl
theorem wgv_1 (S : ST) (v : Nat) : wgv (wL S 6 0 (lI 1)) sz wt ro v = wL (wgv S sz wt ro v) 6 0 (lI 1) ∨ 0 < v := by
  by_cases h : 0 < v
  · exact Or.inr h
  · refine Or.inl ?_
    have : v = 0 := by omega
    subst this
    rw [wgv_0 rfl]
    unfold wgv
    rw [wL_wLA (g := fun r => if r = 0 then lI 1 else SL S 6 r) (fun k => by
      by_cases hk : k = 0
      · rw [if_pos hk, if_pos hk]
      · rw [if_neg hk, if_neg hk, if_neg (by have : pr sz 0 = 1 := rfl; omega)])]
    refine st_ext rfl rfl (funext fun b => funext fun k => ?_) rfl
    rw [SL_wL, SL_wLA]
    by_cases hb : b = 6
    · subst hb
      rw [if_pos rfl]
      by_cases hk : k = 0
      · rw [if_pos hk, if_pos ⟨rfl, hk⟩]
      · rw [if_neg hk, if_neg (fun z => hk z.2)]
    · rw [if_neg hb, if_neg (fun z => hb z.1)]
/-- the cache of runs' weights -/
def gC (S : ST) (n : Nat) (sz : Nat → Nat) (wt : Nat → Int) (ro : Nat → Bool) (b : Bool) : Prop := SI S 1 5 = bI b ∧ (b = true → ∀ r, r < pr sz n → SL S 6 r = lI (wq sz wt ro n r))
theorem wgv_same {S : ST} {v : Nat} (h : ∀ r, r < pr sz v → SL S 6 r = lI (wq sz wt ro v r)) : wgv S sz wt ro v = S := st_ext rfl rfl (funext fun b => funext fun k => by
  unfold wgv
  rw [SL_wLA]
  by_cases hb : b = 6
  · subst hb
    rw [if_pos rfl]
    by_cases hk : k < pr sz v
    · rw [if_pos hk, h k hk]
    · rw [if_neg hk]
  · rw [if_neg hb]) rfl
theorem wI_same {S : ST} {a i : Nat} {z : Int} (h : SI S a i = z) : wI S a i z = S := st_ext rfl (funext fun b => funext fun k => by
  rw [SI_wI]
  by_cases hb : b = a ∧ k = i
  · obtain ⟨rfl, rfl⟩ := hb
    rw [if_pos ⟨rfl, rfl⟩, h]
  · rw [if_neg hb]) rfl rfl
theorem wgh_same {S : ST} (h : gC S n sz wt ro true) : wgh S n sz wt ro = S := by
  unfold wgh
  rw [wgv_same (h.2 rfl)]
  exact wI_same h.1
theorem wgh_gC (S : ST) : gC (wgh S n sz wt ro) n sz wt ro true := ⟨rfl, fun _ r hr => if_pos hr⟩
theorem wgv_w1 {S : ST} (hp : 0 < n) (h1 : 1 ≤ pr sz n) : wgv (wL S 6 0 (lI 1)) sz wt ro n = wgv S sz wt ro n := st_ext rfl rfl (funext fun b => funext fun k => by
  unfold wgv
  rw [SL_wLA, SL_wLA]
  by_cases hb : b = 6
  · subst hb
    rw [if_pos rfl, if_pos rfl]
    by_cases hk : k < pr sz n
    · rw [if_pos hk, if_pos hk]
    · rw [if_neg hk, if_neg hk, SL_wL, if_neg (by omega)]
  · rw [if_neg hb, if_neg hb, ]
    rw [SL_wL, if_neg (fun z => hb z.1)]) rfl
theorem wgv_w0 {S : ST} (h1 : 0 < pr sz n) (h0 : n = 0 → wq sz wt ro n 0 = 1) : wgv (wL S 6 0 (lI 1)) sz wt ro n = wgv S sz wt ro n := st_ext rfl rfl (funext fun b => funext fun k => by
  unfold wgv
  rw [SL_wLA, SL_wLA]
  by_cases hb : b = 6
  · subst hb
    rw [if_pos rfl, if_pos rfl]
    by_cases hk : k < pr sz n
    · rw [if_pos hk, if_pos hk]
    · rw [if_neg hk, if_neg hk, SL_wL, if_neg (by omega)]
  · rw [if_neg hb, if_neg hb, SL_wL, if_neg (fun z => hb z.1)]) rfl
theorem c_weighRuns {b : Bool} (hv : vC S n sz) (hw : wC S wt ro) (hg : gC S n sz wt ro b) : sM X 1 23 [.ref 1] S (sV none (wgh S n sz wt ro)) := by
  have hn := hv.1.1
  have hpn := hv.1.pos (i := n) (by omega)
  refine sIni (ls := [some (.ref 1), none, none]) rfl ?_
  refine sL (pc' := 1) (i := .aload_n 0) rfl rfl ?_
  refine sGi (p := 4) rfl rfl (sk_1 _) rfl rfl rfl hg.1 ?_
  refine sBe (p := 7) rfl rfl (fun c1 => ?_) (fun c1 => ?_)
  · have c1 := c1
    refine sL (pc' := 9) (i := .aload_n 0) rfl rfl ?_
    refine sGc (p := 12) rfl rfl (sk_1 _) rfl rfl rfl ?_
    refine sKi (p := 13) rfl rfl ?_
    refine sKj1 (p := 14) rfl rfl rfl ?_
    refine sWl (p := 15) (i := 0) rfl rfl (sk_6 _) (by omega) ⟨by omega, by omega⟩ ?_
    refine sKi (p := 16) rfl rfl ?_
    refine sL (pc' := 17) (i := .istore_n 1) (ls' := [some (.ref 1), some (.int (iI 0)), none]) rfl rfl ?_
    refine sSh (T := wgv (wL S 6 0 (lI 1)) sz wt ro 0) (congrArg sH (wgv_0 rfl).symm) ?_
    refine sIt (A := fun v => [some (.ref 1), some (.int (iI ((v : Nat) : Int))), none]) (B := fun v => wgv (wL S 6 0 (lI 1)) sz wt ro v) (fun _ => True) n True.intro (fun v hi17 hI17 ih17 => ?_) (fun hI17 => ?_)
    · have hi17 := hi17
      have hs := hv.1.2.1 v hi17
      have hpv := hv.1.pos (i := v) (by omega)
      refine sL (pc' := 18) (i := .iload_n 1) rfl rfl ?_
      refine sL (pc' := 19) (i := .aload_n 0) rfl rfl ?_
      refine sGi (p := 22) rfl rfl (sk_1 _) rfl rfl rfl hv.2.1 ?_
      refine sIc_ge (p := 25) rfl rfl ⟨by omega, by omega⟩ ⟨by omega, by omega⟩ (fun c2 => ?_) (fun c2 => ?_)
      · exfalso; omega
      · have c2 := c2
        refine sL (pc' := 26) (i := .aload_n 0) rfl rfl ?_
        refine sGc (p := 29) rfl rfl (sk_1 _) rfl rfl rfl ?_
        refine sL (pc' := 30) (i := .iload_n 1) rfl rfl ?_
        refine sAi (p := 31) (i := v) rfl rfl (sk_2 _) (by omega) ⟨by omega, by omega⟩ (hv.2.2.2.1 _ (by omega)) ?_
        refine sKi (p := 32) rfl rfl ?_
        refine sSb (p := 33) rfl rfl ?_
        refine sL (pc' := 34) (i := .istore_n 2) (ls' := [some (.ref 1), some (.int (iI ((v : Nat) : Int))), some (.int (iI (((sz v : Nat) : Int) - 1)))]) rfl rfl ?_
        rw [show ((sz v : Nat) : Int) - 1 = ((sz v : Nat) : Int) - 1 - ((0 : Nat) : Int) from by omega]
        refine sSh (T := wgj (wL S 6 0 (lI 1)) sz wt ro v 0) (congrArg sH (wgj_0 _ _ _ _ _).symm) ?_
        refine sIt (A := fun j => [some (.ref 1), some (.int (iI ((v : Nat) : Int))), some (.int (iI (((sz v : Nat) : Int) - 1 - ((j : Nat) : Int))))]) (B := fun j => wgj (wL S 6 0 (lI 1)) sz wt ro v j) (fun _ => True) (sz v) True.intro (fun j hi34 hI34 ih34 => ?_) (fun hI34 => ?_)
        · have hi34 := hi34
          refine sL (pc' := 35) (i := .iload_n 2) rfl rfl ?_
          refine sIf_lt (p := 38) rfl rfl ⟨by omega, by omega⟩ (fun c3 => ?_) (fun c3 => ?_)
          · exfalso; omega
          · have c3 := c3
            refine sL (pc' := 39) (i := .aload_n 0) rfl rfl ?_
            refine sL (pc' := 40) (i := .iload_n 1) rfl rfl ?_
            refine sL (pc' := 41) (i := .iload_n 2) rfl rfl ?_
            rw [show ((sz v : Nat) : Int) - 1 - ((j : Nat) : Int) = ((sz v - 1 - j : Nat) : Int) from by omega]
            refine sCv (p := 44) (as := [_, _]) rfl rfl rfl rfl (by decide) (Nat.le_of_ble_eq_true rfl) rfl (Nat.le_of_ble_eq_true rfl) (sk_1 _) rfl (by omega) (c_spreadWeight (S := wgj (wL S 6 0 (lI 1)) sz wt ro v j) (v := v) (k := sz v - 1 - j) hv hw hi17 (by omega)) ?_
            refine sInX (z := ((sz v - 1 - j : Nat) : Int)) (ls' := [some (.ref 1), some (.int (iI ((v : Nat) : Int))), some (.int (iI (((sz v - 1 - j : Nat) : Int) + (-1))))]) (p := 47) rfl rfl (Nat.le_of_ble_eq_true rfl) rfl rfl ?_
            refine sL (i := .goto (-13)) rfl rfl ?_
            refine sRo (ls := [some (.ref 1), some (.int (iI ((v : Nat) : Int))), some (.int (iI (((sz v : Nat) : Int) - 1 - ((j + 1 : Nat) : Int))))]) (T := wgj (wL S 6 0 (lI 1)) sz wt ro v (j + 1)) (And.intro rfl (And.intro rfl (And.intro (congrArg (fun z => some (Value.int (iI z))) (by omega)) (True.intro)))) (congrArg sH (wgj_s hpv hi34 rfl)) (ih34 ?_)
            exact True.intro
        · have hI34 := hI34
          refine sL (pc' := 35) (i := .iload_n 2) rfl rfl ?_
          refine sIf_lt (p := 38) rfl rfl ⟨by omega, by omega⟩ (fun c4 => ?_) (fun c4 => ?_)
          · have c4 := c4
            refine sInX (z := ((v : Nat) : Int)) (ls' := [some (.ref 1), some (.int (iI (((v : Nat) : Int) + 1))), some (.int (iI (((sz v : Nat) : Int) - 1 - ((sz v : Nat) : Int))))]) (p := 53) rfl rfl (Nat.le_of_ble_eq_true rfl) rfl rfl ?_
            refine sL (i := .goto (-36)) rfl rfl ?_
            refine sRo (ls := [some (.ref 1), some (.int (iI ((v + 1 : Nat) : Int))), none]) (T := wgv (wL S 6 0 (lI 1)) sz wt ro (v + 1)) (And.intro rfl (And.intro rfl (True.intro))) (congrArg sH (wgj_n _ _ _ _ (by omega))) (ih17 ?_)
            exact True.intro
          · exfalso; omega
    · have hI17 := hI17
      refine sL (pc' := 18) (i := .iload_n 1) rfl rfl ?_
      refine sL (pc' := 19) (i := .aload_n 0) rfl rfl ?_
      refine sGi (p := 22) rfl rfl (sk_1 _) rfl rfl rfl hv.2.1 ?_
      refine sIc_ge (p := 25) rfl rfl ⟨by omega, by omega⟩ ⟨by omega, by omega⟩ (fun c5 => ?_) (fun c5 => ?_)
      · have c5 := c5
        refine sL (pc' := 57) (i := .aload_n 0) rfl rfl ?_
        refine sKi (p := 58) rfl rfl ?_
        refine sPz (b := true) (p := 61) rfl rfl (sk_1 _) rfl rfl rfl rfl ?_
        refine sEn (i := .return_) rfl (rfl) ?_
        exact ⟨rfl, congrArg (fun T => sH (wI T 1 5 (bI true))) (wgv_w0 hpn (fun z => by subst z; rfl))⟩
      · exfalso; omega
  · have c1 := c1
    subst c1
    refine sEn (i := .return_) rfl rfl ?_
    exact ⟨rfl, congrArg sH (wgh_same hg).symm⟩
theorem c_weightOfRun {b : Bool} (hv : vC S n sz) (hw : wC S wt ro) (hg : gC S n sz wt ro b) {r : Nat} (hr : r < pr sz n) : sM X 2 22 [.ref 1, .int (iI (r : Nat))] S (sV (some (.long (lI (wq sz wt ro n r)))) (wgh S n sz wt ro)) := by
  have hT := hv.1.2.2
  refine sIni (ls := [some (.ref 1), some (.int (iI ((r : Nat) : Int)))]) rfl ?_
  refine sL (pc' := 1) (i := .aload_n 0) rfl rfl ?_
  refine sCv (p := 4) (as := []) rfl rfl rfl rfl (by decide) (Nat.le_of_ble_eq_true rfl) rfl (Nat.le_of_ble_eq_true rfl) (sk_1 _) rfl (by omega) (c_weighRuns hv hw hg) ?_
  refine sL (pc' := 5) (i := .iload_n 1) rfl rfl ?_
  refine sIf_lt (p := 8) rfl rfl ⟨by omega, by omega⟩ (fun c1 => ?_) (fun c1 => ?_)
  · exfalso; omega
  · have c1 := c1
    refine sL (pc' := 9) (i := .iload_n 1) rfl rfl ?_
    refine sL (pc' := 10) (i := .aload_n 0) rfl rfl ?_
    refine sGi (p := 13) rfl rfl (sk_1 _) rfl rfl rfl hv.2.2.1 ?_
    refine sIc_ge (p := 16) rfl rfl ⟨by omega, by omega⟩ ⟨by omega, by omega⟩ (fun c2 => ?_) (fun c2 => ?_)
    · exfalso; omega
    · have c2 := c2
      refine sL (pc' := 17) (i := .aload_n 0) rfl rfl ?_
      refine sGc (p := 20) rfl rfl (sk_1 _) rfl rfl rfl ?_
      refine sL (pc' := 21) (i := .iload_n 1) rfl rfl ?_
      refine sAl (p := 22) (i := r) rfl rfl (sk_6 _) (by omega) ⟨by omega, by omega⟩ (if_pos (by omega)) ?_
      refine sL (i := .goto 4) rfl rfl ?_
      refine sEn (i := .lreturn) rfl (rfl) ?_
      exact ⟨rfl, rfl⟩
theorem c_setWeight (hv : vC S n sz) (hw : wC S wt ro) {v k x : Nat} (hvv : v < n) (hk : k < sz v) : sM X 0 19 [.ref 1, .int (iI (v : Nat)), .int (iI (k : Nat)), .int (iI (x : Nat))] S (sV (some (.int (iI (wt (v * 6 + k))))) (wI (wI S 4 (v * 6 + k) x) 1 5 (bI false))) := by
  have hn := hv.1.1
  have hs := hv.1.2.1 v hvv
  refine sIni (ls := [some (.ref 1), some (.int (iI ((v : Nat) : Int))), some (.int (iI ((k : Nat) : Int))), some (.int (iI ((x : Nat) : Int))), none, none]) rfl ?_
  refine sL (pc' := 1) (i := .iload_n 1) rfl rfl ?_
  refine sKb (p := 3) rfl rfl ?_
  refine sMu (p := 4) rfl rfl ?_
  refine sL (pc' := 5) (i := .iload_n 2) rfl rfl ?_
  refine sAd (p := 6) rfl rfl ?_
  refine sL (pc' := 8) (i := .istore 4) (ls' := [some (.ref 1), some (.int (iI ((v : Nat) : Int))), some (.int (iI ((k : Nat) : Int))), some (.int (iI ((x : Nat) : Int))), some (.int (iI ((((v : Nat) : Int) * 6) + ((k : Nat) : Int)))), none]) rfl rfl ?_
  refine sL (pc' := 9) (i := .aload_n 0) rfl rfl ?_
  refine sGc (p := 12) rfl rfl (sk_1 _) rfl rfl rfl ?_
  refine sL (pc' := 14) (i := .iload 4) rfl rfl ?_
  refine sAi (p := 15) (i := (v * 6) + k) rfl rfl (sk_4 _) (by omega) ⟨by omega, by omega⟩ (hw _ (by omega)).1 ?_
  refine sL (pc' := 17) (i := .istore 5) (ls' := [some (.ref 1), some (.int (iI ((v : Nat) : Int))), some (.int (iI ((k : Nat) : Int))), some (.int (iI ((x : Nat) : Int))), some (.int (iI ((((v : Nat) : Int) * 6) + ((k : Nat) : Int)))), some (.int (iI (wt ((v * 6) + k))))]) rfl rfl ?_
  refine sL (pc' := 18) (i := .aload_n 0) rfl rfl ?_
  refine sGc (p := 21) rfl rfl (sk_1 _) rfl rfl rfl ?_
  refine sL (pc' := 23) (i := .iload 4) rfl rfl ?_
  refine sL (pc' := 24) (i := .iload_n 3) rfl rfl ?_
  refine sWi (p := 25) (i := (v * 6) + k) rfl rfl (sk_4 _) (by omega) ⟨by omega, by omega⟩ ?_
  refine sL (pc' := 26) (i := .aload_n 0) rfl rfl ?_
  refine sKi (p := 27) rfl rfl ?_
  refine sPz (b := false) (p := 30) rfl rfl (sk_1 _) rfl rfl rfl rfl ?_
  refine sL (pc' := 32) (i := .iload 5) rfl rfl ?_
  refine sEn (i := .ireturn) rfl (rfl) ?_
  exact ⟨rfl, rfl⟩
theorem c_setRuledOut (hv : vC S n sz) (hw : wC S wt ro) {v k : Nat} {x : Bool} (hvv : v < n) (hk : k < sz v) : sM X 0 20 [.ref 1, .int (iI (v : Nat)), .int (iI (k : Nat)), .int (iI (bI x))] S (sV (some (.int (iI (bI (decide (ro (v * 6 + k) ≠ x)))))) (if ro (v * 6 + k) = x then S else wI (wI S 5 (v * 6 + k) (bI x)) 1 5 (bI false))) := by
  have hn := hv.1.1
  have hs := hv.1.2.1 v hvv
  refine sIni (ls := [some (.ref 1), some (.int (iI ((v : Nat) : Int))), some (.int (iI ((k : Nat) : Int))), some (.int (iI (bI x))), none]) rfl ?_
  refine sL (pc' := 1) (i := .iload_n 1) rfl rfl ?_
  refine sKb (p := 3) rfl rfl ?_
  refine sMu (p := 4) rfl rfl ?_
  refine sL (pc' := 5) (i := .iload_n 2) rfl rfl ?_
  refine sAd (p := 6) rfl rfl ?_
  refine sL (pc' := 8) (i := .istore 4) (ls' := [some (.ref 1), some (.int (iI ((v : Nat) : Int))), some (.int (iI ((k : Nat) : Int))), some (.int (iI (bI x))), some (.int (iI ((((v : Nat) : Int) * 6) + ((k : Nat) : Int))))]) rfl rfl ?_
  refine sL (pc' := 9) (i := .aload_n 0) rfl rfl ?_
  refine sGc (p := 12) rfl rfl (sk_1 _) rfl rfl rfl ?_
  refine sL (pc' := 14) (i := .iload 4) rfl rfl ?_
  refine sAb (p := 15) (i := (v * 6) + k) rfl rfl (sk_5 _) (Or.inl rfl) (by omega) ⟨by omega, by omega⟩ (hw _ (by omega)).2.1 ?_
  refine sL (pc' := 16) (i := .iload_n 3) rfl rfl ?_
  refine sIb_ne (p := 19) rfl rfl (fun c1 => ?_) (fun c1 => ?_)
  · have c1 := c1
    refine sL (pc' := 22) (i := .aload_n 0) rfl rfl ?_
    refine sGc (p := 25) rfl rfl (sk_1 _) rfl rfl rfl ?_
    refine sL (pc' := 27) (i := .iload 4) rfl rfl ?_
    refine sL (pc' := 28) (i := .iload_n 3) rfl rfl ?_
    refine sWz (p := 29) (i := (v * 6) + k) rfl rfl (sk_5 _) (by omega) ⟨by omega, by omega⟩ ?_
    refine sL (pc' := 30) (i := .aload_n 0) rfl rfl ?_
    refine sKi (p := 31) rfl rfl ?_
    refine sPz (b := false) (p := 34) rfl rfl (sk_1 _) rfl rfl rfl rfl ?_
    refine sKi (p := 35) rfl rfl ?_
    refine sEn (i := .ireturn) rfl (rfl) ?_
    exact ⟨by rw [show decide (ro (v * 6 + k) ≠ x) = true from decide_eq_true c1]; rfl, by rw [if_neg c1]⟩
  · have c1 := c1
    refine sKi (p := 20) rfl rfl ?_
    refine sEn (i := .ireturn) rfl (rfl) ?_
    exact ⟨by rw [show decide (ro (v * 6 + k) ≠ x) = false from decide_eq_false (fun z => z c1)]; rfl, by rw [if_pos c1]⟩
theorem c_add (hv : vC S n sz) {x : Nat} (hx : x ≤ 6) (hn : n < 10) : sM X 0 14 [.ref 1, .int (iI (x : Nat))] S (sV (some (.int (iI (n : Nat)))) (wI (wI (wI (wI (wI S 2 n x) 3 n (pr sz n : Nat)) 1 7 ((pr sz n * x : Nat) : Int)) 1 6 ((n + 1 : Nat) : Int)) 1 5 (bI false))) := by
  refine sIni (ls := [some (.ref 1), some (.int (iI ((x : Nat) : Int))), none]) rfl ?_
  refine sL (pc' := 1) (i := .aload_n 0) rfl rfl ?_
  refine sGi (p := 4) rfl rfl (sk_1 _) rfl rfl rfl hv.2.1 ?_
  refine sL (pc' := 5) (i := .istore_n 2) (ls' := [some (.ref 1), some (.int (iI ((x : Nat) : Int))), some (.int (iI ((n : Nat) : Int)))]) rfl rfl ?_
  refine sL (pc' := 6) (i := .aload_n 0) rfl rfl ?_
  refine sGc (p := 9) rfl rfl (sk_1 _) rfl rfl rfl ?_
  refine sL (pc' := 10) (i := .iload_n 2) rfl rfl ?_
  refine sL (pc' := 11) (i := .iload_n 1) rfl rfl ?_
  refine sWi (p := 12) (i := n) rfl rfl (sk_2 _) (by omega) ⟨by omega, by omega⟩ ?_
  refine sL (pc' := 13) (i := .aload_n 0) rfl rfl ?_
  refine sGc (p := 16) rfl rfl (sk_1 _) rfl rfl rfl ?_
  refine sL (pc' := 17) (i := .iload_n 2) rfl rfl ?_
  refine sL (pc' := 18) (i := .aload_n 0) rfl rfl ?_
  refine sGi (p := 21) rfl rfl (sk_1 _) rfl rfl rfl hv.2.2.1 ?_
  refine sWi (p := 22) (i := n) rfl rfl (sk_3 _) (by omega) ⟨by omega, by omega⟩ ?_
  refine sL (pc' := 23) (i := .aload_n 0) rfl rfl ?_
  refine sL (pc' := 24) (i := .dup) rfl rfl ?_
  refine sGi (p := 27) rfl rfl (sk_1 _) rfl rfl rfl hv.2.2.1 ?_
  refine sL (pc' := 28) (i := .iload_n 1) rfl rfl ?_
  refine sMu (p := 29) rfl rfl ?_
  refine sPi (z := (((pr sz n : Nat) : Int) * ((x : Nat) : Int))) (p := 32) rfl rfl (sk_1 _) rfl rfl rfl rfl ?_
  refine sL (pc' := 33) (i := .aload_n 0) rfl rfl ?_
  refine sL (pc' := 34) (i := .dup) rfl rfl ?_
  refine sGi (p := 37) rfl rfl (sk_1 _) rfl rfl rfl hv.2.1 ?_
  refine sKi (p := 38) rfl rfl ?_
  refine sAd (p := 39) rfl rfl ?_
  refine sPi (z := (((n : Nat) : Int) + 1)) (p := 42) rfl rfl (sk_1 _) rfl rfl rfl rfl ?_
  refine sL (pc' := 43) (i := .aload_n 0) rfl rfl ?_
  refine sKi (p := 44) rfl rfl ?_
  refine sPz (b := false) (p := 47) rfl rfl (sk_1 _) rfl rfl rfl rfl ?_
  refine sL (pc' := 48) (i := .iload_n 2) rfl rfl ?_
  refine sEn (i := .ireturn) rfl (rfl) ?_
  exact ⟨rfl, rfl⟩
end WT
