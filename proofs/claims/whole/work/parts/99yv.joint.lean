/-! ===== the joint invariant ===== -/
def mSd (S : ST) (n : Nat) (sz : Nat → Nat) (sd : Option (Nat → Bool)) : Prop := (sd = none ∧ SI S 179 42 = -1) ∨ ∃ g, sd = some g ∧ SI S 179 42 = 0 ∧ rowS S 200 0 g ∧ tbT (pr sz n) g
/-- the reference's cells -/
def MI (S : ST) (n : Nat) (sz : Nat → Nat) (wt : Nat → Int) (ro : Nat → Bool) (fn : Nat) (Fn : Nat → Nat → Bool) (nc : Nat) (rn : Nat → Int64) (rof : Nat → Nat) (ord : Nat → Nat) (sd : Option (Nat → Bool)) (tr tn : Int) (up lo : Int64) (y : Nat → Nat) (s : Nat) (L : List Nat) (kz : Int) : Prop :=
  vM S n sz ∧ wM S n wt ro ∧ mFn S fn Fn nc rn rof ∧ oM S n ord ∧ mSd S n sz sd ∧ (SI S 179 19 = tn ∧ ∀ i : Nat, (i : Int) < tn → SI S 191 i = ((val sz tr.toNat i : Nat) : Int)) ∧ (SL S 179 20 = up ∧ SL S 179 21 = lo) ∧ mT S y s ∧ tbM S L 20000 ∧ SI S 179 14 = kz
/-- the class's cells -/
def KI (S : ST) (n : Nat) (sz : Nat → Nat) (wt : Nat → Int) (ro : Nat → Bool) (fn : Nat) (Fn : Nat → Nat → Bool) (nm : Nat → Int64) (ord : Nat → Nat) (sd : Option (Nat → Bool)) (tr tn : Int) (up lo : Int64) (Z : Nat) (y : Nat → Nat) (s : Nat) (L : List Nat) (m : Nat) (kz : Int) : Prop :=
  CI S n sz wt ro fn Fn nm ord sd tr tn up lo Z ∧ tp S y s ∧ sbB S L m ∧ SI S 69 6 = kz
/-- what ties them -/
def RI (n : Nat) (sz : Nat → Nat) (wt : Nat → Int) (ro : Nat → Bool) (fn : Nat) (nm : Nat → Int64) (nc : Nat) (rn : Nat → Int64) (rof : Nat → Nat) (tr tn : Int) (Z m : Nat) (kz : Int) : Prop :=
  nmJ nm fn rn rof nc ∧ nc ≤ fn ∧ (∀ i, n * 6 ≤ i → i < 60 → wt i = 1 ∧ ro i = false) ∧ (-1 ≤ tr ∧ tr < 1024 ∧ (tn = -1 ∨ 0 ≤ tr) ∧ -1 ≤ tn ∧ tn ≤ n) ∧ Z ≤ 2 * m ∧ 0 ≤ kz ∧ kz ≤ 5
def JI (S : ST) : Prop := ∃ n sz wt ro fn Fn nm ord sd tr tn up lo Z y s L m kz nc rn rof, KI S n sz wt ro fn Fn nm ord sd tr tn up lo Z y s L m kz ∧ MI S n sz wt ro fn Fn nc rn rof ord sd tr tn up lo y s L kz ∧ RI n sz wt ro fn nm nc rn rof tr tn Z m kz
/-- the reference alone moved -/
def frMo (S S' : ST) : Prop := S'.1 = S.1 ∧ ∀ c, (c < 179 ∨ 202 < c) → SI S' c = SI S c ∧ SL S' c = SL S c ∧ SR S' c = SR S c
theorem frMo_refl (S : ST) : frMo S S := ⟨rfl, fun _ _ => ⟨rfl, rfl, rfl⟩⟩
theorem frMo_trans {A B C : ST} (h : frMo A B) (k : frMo B C) : frMo A C := ⟨k.1.trans h.1, fun c hc => ⟨(k.2 c hc).1.trans (h.2 c hc).1, (k.2 c hc).2.1.trans (h.2 c hc).2.1, (k.2 c hc).2.2.trans (h.2 c hc).2.2⟩⟩
theorem frMo_w {S : ST} {a k : Nat} {z : Int} (h : 179 ≤ a ∧ a ≤ 202) : frMo S (wI S a k z) := ⟨rfl, fun c hc => ⟨funext fun j => rI_ne (by omega) j, rfl, rfl⟩⟩
theorem frMo_l {S : ST} {a k : Nat} {z : Int64} (h : 179 ≤ a ∧ a ≤ 202) : frMo S (wL S a k z) := ⟨rfl, fun c hc => ⟨rfl, funext fun j => by rw [SL_wL, if_neg (by omega)], rfl⟩⟩
theorem frMo_r {S : ST} {a o : Nat} {f : Nat → Bool} (h : 179 ≤ a ∧ a ≤ 202) : frMo S (wRw S a o f) := ⟨rfl, fun c hc => ⟨rfl, SL_wRw_ne (by omega), rfl⟩⟩
section JA
variable {S S' : ST} {n fn nc s m Z : Nat} {sz : Nat → Nat} {wt : Nat → Int} {ro : Nat → Bool} {Fn : Nat → Nat → Bool} {nm rn : Nat → Int64} {rof ord : Nat → Nat} {sd : Option (Nat → Bool)} {tr tn kz : Int} {up lo : Int64} {y : Nat → Nat} {L : List Nat}
theorem dRF_Mo {b R U : Nat} {pl rt : Nat → Nat} {D : DT} (h : dRF S b R n sz ord pl D U fn rt Fn) (f : frMo S S') : dRF S' b R n sz ord pl D U fn rt Fn := by
  have hA := h.1.1.1
  have hb := hA.1
  have hz := h.1.1.2.2.2.2.2.2.2.2.2
  have hA' : dA S' b R := by
    obtain ⟨a1, a2, a3, a4, a5, a6, a7, a8, a9, k0, k1, k2, k3, k4, k5⟩ := hA
    have e := (f.2 52 (by omega)).2.2
    exact ⟨a1, a2, a3, by rw [e]; exact a4, by rw [e]; exact a5, by rw [e]; exact a6, by rw [e]; exact a7, by rw [e]; exact a8, by rw [e]; exact a9, (kd_cg f.1 _).trans k0, (kd_cg f.1 _).trans k1, (kd_cg f.1 _).trans k2, (kd_cg f.1 _).trans k3, (kd_cg f.1 _).trans k4, (kd_cg f.1 _).trans k5⟩
  refine dRF_g h hA' (f.2 52 (by omega)).1 (f.2 53 (by omega)).1 (f.2 54 (by omega)).1 (f.2 55 (by omega)).1 (f.2 b (by omega)).1 (f.2 (b + 1) (by omega)).1 (f.2 (b + 2) (by omega)).1 (f.2 (b + 5) (by omega)).1 (fun x hx => ?_)
  rw [(f.2 (b + 3) (by omega)).1]
  exact hz x hx
theorem CI_Mo (h : CI S n sz wt ro fn Fn nm ord sd tr tn up lo Z) (f : frMo S S') : CI S' n sz wt ro fn Fn nm ord sd tr tn up lo Z := by
  obtain ⟨b, R, pl, D, U, rt, hR, hrt, hsd, htz, hln⟩ := h.2.2.2.2.1
  refine CI_g h (fun c hc => (f.2 c (by omega)).1) (fun c hc => (f.2 c (by omega)).2.1) ⟨b, R, pl, D, U, rt, dRF_Mo hR f, fun i hi => ?_, ?_, ?_, ?_⟩
  · rw [(f.2 50 (by omega)).1]
    exact hrt i hi
  · unfold cSd at *
    rw [(f.2 0 (by omega)).1]
    exact hsd
  · unfold tz at *
    rw [f.1]
    exact htz
  · rw [f.1]
    exact hln
theorem tp_Mo (h : tp S y s) (f : frMo S S') : tp S' y s := by
  unfold tp at *
  rw [(f.2 64 (by omega)).1, (f.2 65 (by omega)).1]
  exact h
theorem sbB_Mo (h : sbB S L m) (f : frMo S S') : sbB S' L m := by
  unfold sbB at *
  rw [(f.2 177 (by omega)).1, (f.2 178 (by omega)).1]
  exact h
theorem KI_Mo (h : KI S n sz wt ro fn Fn nm ord sd tr tn up lo Z y s L m kz) (f : frMo S S') : KI S' n sz wt ro fn Fn nm ord sd tr tn up lo Z y s L m kz := ⟨CI_Mo h.1 f, tp_Mo h.2.1 f, sbB_Mo h.2.2.1 f, by rw [(f.2 69 (by omega)).1]; exact h.2.2.2⟩
/-- the class moved: the reference's cells stand -/
theorem MI_cg (h : MI S n sz wt ro fn Fn nc rn rof ord sd tr tn up lo y s L kz) (hI : ∀ c, 179 ≤ c → c ≤ 201 → SI S' c = SI S c) (hL : ∀ c, 179 ≤ c → c ≤ 201 → SL S' c = SL S c) : MI S' n sz wt ro fn Fn nc rn rof ord sd tr tn up lo y s L kz := by
  unfold MI vM wM mFn oM mSd mT tbM rowS at *
  rw [hI 179 (by omega) (by omega), hI 180 (by omega) (by omega), hI 181 (by omega) (by omega), hI 182 (by omega) (by omega), hI 183 (by omega) (by omega), hI 184 (by omega) (by omega), hI 188 (by omega) (by omega), hI 190 (by omega) (by omega), hI 191 (by omega) (by omega), hI 201 (by omega) (by omega), hL 179 (by omega) (by omega), hL 185 (by omega) (by omega), hL 189 (by omega) (by omega), hL 200 (by omega) (by omega)]
  exact h
theorem MI_X (h : MI S n sz wt ro fn Fn nc rn rof ord sd tr tn up lo y s L kz) (f : frX S S') : MI S' n sz wt ro fn Fn nc rn rof ord sd tr tn up lo y s L kz := MI_cg h (fun c h1 h2 => (f.2.1 c (by omega) (by omega)).1) (fun c h1 h2 => (f.2.1 c (by omega) (by omega)).2.1)
theorem MI_V (h : MI S n sz wt ro fn Fn nc rn rof ord sd tr tn up lo y s L kz) (f : frV S S') : MI S' n sz wt ro fn Fn nc rn rof ord sd tr tn up lo y s L kz := MI_cg h (fun c h1 h2 => (f.2.1 c (by omega) (by omega)).1) (fun c h1 h2 => (f.2.1 c (by omega) (by omega)).2.1)
theorem sbB_V (h : sbB S L m) (f : frV S S') : sbB S' L m := by
  unfold sbB at *
  rw [(f.2.1 177 (by omega) (by omega)).1, (f.2.1 178 (by omega) (by omega)).1]
  exact h
theorem KI_X {n' fn' Z' : Nat} {sz' : Nat → Nat} {wt' : Nat → Int} {ro' : Nat → Bool} {Fn' : Nat → Nat → Bool} {nm' : Nat → Int64} {ord' : Nat → Nat} {sd' : Option (Nat → Bool)} {tr' tn' : Int} {up' lo' : Int64} (h : KI S n sz wt ro fn Fn nm ord sd tr tn up lo Z y s L m kz) (f : frX S S') (hC : CI S' n' sz' wt' ro' fn' Fn' nm' ord' sd' tr' tn' up' lo' Z') : KI S' n' sz' wt' ro' fn' Fn' nm' ord' sd' tr' tn' up' lo' Z' y s L m kz := by
  refine ⟨hC, ?_, sbB_V h.2.2.1 (frV_X f), by rw [(f.2.1 69 (by omega) (by omega)).1]; exact h.2.2.2⟩
  have h2 := h.2.1
  unfold tp at *
  rw [(f.2.1 64 (by omega) (by omega)).1, (f.2.1 65 (by omega) (by omega)).1]
  exact h2
end JA
