/-! ===== quantified lists: order and repeats do not matter ===== -/
def agr (n : Nat) (sz : Nat → Nat) (A : Nat → Prop) (r r' : Nat) : Prop := ∀ v, v < n → ¬ A v → val sz r' v = val sz r v
def RQ (n : Nat) (sz : Nat → Nat) (b : Bool) (A : Nat → Prop) (f g : Nat → Bool) : Prop := ∀ r, r < pr sz n → (g r = b ↔ ∀ r', r' < pr sz n → agr n sz A r r' → f r' = b)
theorem bdB_iff {all : Bool} {p : Nat → Bool} : ∀ s, bdB all p s = all ↔ ∀ k, k < s → p k = all := by
  intro s
  cases all with
  | true =>
    show allB p s = true ↔ _
    induction s with
    | zero => exact ⟨fun _ k hk => absurd hk (Nat.not_lt_zero _), fun _ => rfl⟩
    | succ s ih =>
      show (allB p s && p s) = true ↔ _
      rw [Bool.and_eq_true, ih]
      constructor
      · intro h k hk
        by_cases c : k = s
        · rw [c]
          exact h.2
        · exact h.1 k (by omega)
      · intro h
        exact ⟨fun k hk => h k (by omega), h s (by omega)⟩
  | false =>
    show anyB p s = false ↔ _
    induction s with
    | zero => exact ⟨fun _ k hk => absurd hk (Nat.not_lt_zero _), fun _ => rfl⟩
    | succ s ih =>
      show (anyB p s || p s) = false ↔ _
      rw [Bool.or_eq_false_iff, ih]
      constructor
      · intro h k hk
        by_cases c : k = s
        · rw [c]
          exact h.2
        · exact h.1 k (by omega)
      · intro h
        exact ⟨fun k hk => h k (by omega), h s (by omega)⟩
section QL
variable {n : Nat} {sz : Nat → Nat} {b : Bool} {A B : Nat → Prop} {f g h : Nat → Bool}
theorem RQ_0 : RQ n sz b (fun _ => False) f f := fun r hr => ⟨fun h r' hr' ha => by
    rw [run_ext hr' hr (fun u hu => ha u hu (fun z => z))]
    exact h, fun h => h r hr (fun _ _ _ => rfl)⟩
theorem RQ_cg (h : RQ n sz b A f g) (e : ∀ v, v < n → (A v ↔ B v)) : RQ n sz b B f g := fun r hr => (h r hr).trans ⟨fun q r' hr' ha => q r' hr' (fun v hv na => ha v hv (fun z => na ((e v hv).mpr z))), fun q r' hr' ha => q r' hr' (fun v hv na => ha v hv (fun z => na ((e v hv).mp z)))⟩
theorem RQ_s {v : Nat} (hw : wf n sz) (hv : v < n) (h1 : RQ n sz b A f g) (h2 : ∀ r, r < pr sz n → h r = qnt sz b g v r) : RQ n sz b (fun u => A u ∨ u = v) f h := fun r hr => by
  rw [h2 r hr]
  refine (bdB_iff (sz v)).trans ⟨fun q r' hr' ha => ?_, fun q k hk => ?_⟩
  · have hk := hw.val hv r'
    refine (h1 _ (chg_lt hw hv hk hr)).mp (q _ hk) r' hr' (fun u hu na => ?_)
    by_cases c : u = v
    · rw [c, chg_at hw hv hk]
    · rw [chg_ne hw hv hk c]
      exact ha u hu (fun z => z.elim na c)
  · refine (h1 _ (chg_lt hw hv hk hr)).mpr (fun r' hr' ha => q r' hr' (fun u hu na => ?_))
    rw [ha u hu (fun z => na (Or.inl z)), chg_ne hw hv hk (fun z => na (Or.inr z))]
theorem RQ_uni (h1 : RQ n sz b A f g) (h2 : RQ n sz b A f h) {r : Nat} (hr : r < pr sz n) : g r = h r := by
  have h3 := (h1 r hr).trans (h2 r hr).symm
  revert h3
  cases g r <;> cases h r <;> cases b <;> intro h3
  all_goals first | rfl | exact absurd (h3.mp rfl) (by decide) | exact absurd (h3.mpr rfl) (by decide)
theorem RQ_bdA {x : Int} (hw : wf n sz) : ∀ v, v ≤ n → RQ n sz b (fun u => u < v ∧ iB (iI x) u = true) f (bdA sz n b x f v)
  | 0, _ => RQ_cg RQ_0 (fun v _ => ⟨fun z => z.elim, fun z => absurd z.1 (Nat.not_lt_zero _)⟩)
  | v + 1, hv => by
    have ih := RQ_bdA (x := x) hw v (by omega)
    by_cases c : iB (iI x) v = true
    · have e : bdA sz n b x f (v + 1) = fun r => if r < pr sz n then qnt sz b (bdA sz n b x f v) v r else bdA sz n b x f v r := if_pos c
      rw [e]
      refine RQ_cg (RQ_s hw (by omega) ih (fun r hr => if_pos hr)) (fun u hu => ⟨fun z => ?_, fun z => ?_⟩)
      · rcases z with z | z
        · exact ⟨by omega, z.2⟩
        · rw [z]
          exact ⟨by omega, c⟩
      · by_cases c2 : u = v
        · exact Or.inr c2
        · exact Or.inl ⟨by omega, z.2⟩
    · have e : bdA sz n b x f (v + 1) = bdA sz n b x f v := if_neg c
      rw [e]
      refine RQ_cg ih (fun u hu => ⟨fun z => ⟨by omega, z.2⟩, fun z => ⟨?_, z.2⟩⟩)
      refine Classical.byContradiction fun c2 => c ?_
      have : u = v := by omega
      rw [← this]
      exact z.2
end QL
/-- a list applied from its end -/
def qfL (n : Nat) (sz : Nat → Nat) (all : Bool) (x : Nat → Nat) : Nat → (Nat → Bool) → Nat → Bool
  | 0, f => f
  | t + 1, f => qfL n sz all x t (cut (pr sz n) (qnt sz all f (x t)))
theorem RQ_qf {n : Nat} {sz : Nat → Nat} {b : Bool} {x : Nat → Nat} (hw : wf n sz) : ∀ t (A : Nat → Prop) (f g : Nat → Bool), (∀ u, u < t → x u < n) → RQ n sz b A f g → RQ n sz b (fun u => A u ∨ ∃ w, w < t ∧ x w = u) f (qfL n sz b x t g)
  | 0, A, f, g, _, h => RQ_cg h (fun v _ => ⟨Or.inl, fun z => z.elim id (fun ⟨w, q, _⟩ => absurd q (Nat.not_lt_zero _))⟩)
  | t + 1, A, f, g, hx, h => by
    have h1 := RQ_s hw (hx t (Nat.lt_succ_self _)) h (h := cut (pr sz n) (qnt sz b g (x t))) (fun r hr => by unfold cut; rw [decide_eq_true hr, Bool.true_and])
    refine RQ_cg (RQ_qf hw t _ f _ (fun u hu => hx u (Nat.lt_succ_of_lt hu)) h1) (fun v _ => ⟨fun z => ?_, fun z => ?_⟩)
    · rcases z with (z | z) | ⟨w, q, z⟩
      · exact Or.inl z
      · exact Or.inr ⟨t, Nat.lt_succ_self _, z.symm⟩
      · exact Or.inr ⟨w, Nat.lt_succ_of_lt q, z⟩
    · rcases z with z | ⟨w, q, z⟩
      · exact Or.inl (Or.inl z)
      · by_cases c : w = t
        · exact Or.inl (Or.inr (by rw [← z, c]))
        · exact Or.inr ⟨w, by omega, z⟩
theorem tb_qf {n : Nat} {sz : Nat → Nat} {b : Bool} {x : Nat → Nat} : ∀ t (f : Nat → Bool), tbT (pr sz n) f → tbT (pr sz n) (qfL n sz b x t f)
  | 0, _, h => h
  | t + 1, f, _ => tb_qf t _ (fun r hr => by
    show (decide (r < pr sz n) && _) = false
    rw [decide_eq_false (by omega), Bool.false_and])
theorem msh_b : ∀ k, k < 10 → ∀ j, j < 10 → iB (iI (msh ((k : Nat) : Int))) j = decide (j = k) := by decide +kernel
theorem mor_b (x y : Int) (j : Nat) : iB (iI (mor x y)) j = (iB (iI x) j || iB (iI y) j) := by
  unfold mor iB
  rw [iI_of, Int32.toBitVec_or, BitVec.getLsbD_or]
section QM
variable {K : Nat → Nat} {C : Nat → Int64} {n i0 : Nat}
/-- the mask of a list -/
theorem mask_b (hn : n ≤ 10) : ∀ t, (∀ u, u ≤ t → (pVar K C n (avs K C n i0 u)).1 = 0) → ∀ v, v < n → (iB (iI (pVs K C n i0 t).2.2) v = true ↔ ∃ w, w < t + 1 ∧ (pVar K C n (avs K C n i0 w)).2.2.toNat = v)
  | 0, h, v, hv => by
    have h1 := pVar_v (h 0 (Nat.le_refl _))
    show iB (iI (msh (pVar K C n i0).2.2)) v = true ↔ _
    have h2 : avs K C n i0 0 = i0 := rfl
    rw [h2] at h1
    obtain ⟨k, hk⟩ : ∃ k : Nat, (pVar K C n i0).2.2 = ((k : Nat) : Int) := ⟨(pVar K C n i0).2.2.toNat, by omega⟩
    rw [hk, msh_b k (by omega) v (by omega)]
    constructor
    · intro z
      have := of_decide_eq_true z
      exact ⟨0, by omega, by rw [h2, hk]; omega⟩
    · rintro ⟨w, q1, q2⟩
      have hw : w = 0 := by omega
      rw [hw, h2, hk] at q2
      exact decide_eq_true (by omega)
  | t + 1, h, v, hv => by
    have ih := mask_b hn t (fun u hu => h u (by omega)) v hv
    have h1 := pVar_v (h (t + 1) (Nat.le_refl _))
    show iB (iI (mor (pVs K C n i0 t).2.2 (msh (pVar K C n (avs K C n i0 (t + 1))).2.2))) v = true ↔ _
    obtain ⟨k, hk⟩ : ∃ k : Nat, (pVar K C n (avs K C n i0 (t + 1))).2.2 = ((k : Nat) : Int) := ⟨(pVar K C n (avs K C n i0 (t + 1))).2.2.toNat, by omega⟩
    rw [hk, mor_b, msh_b k (by omega) v (by omega), Bool.or_eq_true, ih]
    constructor
    · rintro (⟨w, q1, q2⟩ | z)
      · exact ⟨w, by omega, q2⟩
      · have := of_decide_eq_true z
        exact ⟨t + 1, by omega, by rw [hk]; omega⟩
    · rintro ⟨w, q1, q2⟩
      by_cases c : w = t + 1
      · rw [c, hk] at q2
        exact Or.inr (decide_eq_true (by omega))
      · exact Or.inl ⟨w, by omega, q2⟩
theorem pfq_vsL {sz : Nat → Nat} {how : Int} {W : List (Int × Int)} (hh : how = 301 ∨ how = 302) : ∀ t (f : Nat → Bool), pfq n sz (vsL K C n i0 how W t) f = pfq n sz W (qfL n sz (decide (how = 302)) (fun u => (pVar K C n (avs K C n i0 u)).2.2.toNat) t f)
  | 0, f => pfq_p (e := (303, 0)) (by decide)
  | t + 1, f => by
    show pfq n sz ((how, (pVar K C n (avs K C n i0 t)).2.2) :: vsL K C n i0 how W t) f = _
    rw [pfq_p (e := (how, (pVar K C n (avs K C n i0 t)).2.2)) (by show 300 ≤ how; omega), pfq_vsL hh t]
    have e : aE n sz (how, (pVar K C n (avs K C n i0 t)).2.2) f = cut (pr sz n) (qnt sz (decide (how = 302)) f (pVar K C n (avs K C n i0 t)).2.2.toNat) := by
      unfold aE
      rw [if_neg (by show ¬ how = 300; omega), if_neg (by show ¬ how = 303; omega)]
    rw [e]
    rfl
theorem qf_bdA {sz : Nat → Nat} {b : Bool} {t : Nat} {f : Nat → Bool} (hw : wf n sz) (hf : tbT (pr sz n) f) (h : ∀ u, u ≤ t → (pVar K C n (avs K C n i0 u)).1 = 0) : qfL n sz b (fun u => (pVar K C n (avs K C n i0 u)).2.2.toNat) (t + 1) f = bdA sz n b (pVs K C n i0 t).2.2 f n := by
  have hx : ∀ u, u < t + 1 → (pVar K C n (avs K C n i0 u)).2.2.toNat < n := by
    intro u hu
    have := pVar_v (h u (by omega))
    omega
  refine tb_ext (tb_qf _ _ hf) (tb_bdA hf n) (fun r hr => ?_)
  have h1 := RQ_qf (b := b) (x := fun u => (pVar K C n (avs K C n i0 u)).2.2.toNat) hw (t + 1) (fun _ => False) f f hx RQ_0
  have h2 := RQ_bdA (x := (pVs K C n i0 t).2.2) (f := f) (b := b) hw n (Nat.le_refl _)
  refine RQ_uni (RQ_cg h1 (fun v hv => ?_)) h2 hr
  rw [mask_b hw.1 t h v hv]
  exact ⟨fun z => ⟨hv, z.elim False.elim id⟩, fun z => Or.inr z.2⟩
end QM
