/-! ===== stacks against levels ===== -/
theorem rk5_rc {k : Nat} (h : k ≤ 265) (h1 : k ≠ 200) (h2 : k ≠ 201) : rk5 (rc k) = if k = 257 then 1 else if k = 256 then 2 else if k = 124 then 3 else if k = 94 then 4 else if k = 38 then 5 else 0 := by
  unfold rk5 rc
  repeat' split
  all_goals omega
def rkT : List (Int × Int) → Int
  | [] => 0
  | e :: _ => rk5 e.1
def npf : List (Int × Int) → Prop
  | [] => True
  | e :: _ => ¬ 300 ≤ e.1
theorem pfq_npf {n : Nat} {sz : Nat → Nat} {W : List (Int × Int)} {f : Nat → Bool} (h : npf W) : pfq n sz W f = (W, f) := by
  cases W with
  | nil => rfl
  | cons e W => exact pfq_n h
theorem rdc_stop {T : Nat} {L : Int} {W : List (Int × Int)} {V : List (Nat → Bool)} (h : rkT W < L) : rdc T L W V = (W, V) := by
  cases W with
  | nil => rfl
  | cons e W =>
    have h : rk5 e.1 < L := h
    exact rdc_n (by omega)
theorem rdc_rdc {T : Nat} {L L' : Int} (h : L ≤ L') : ∀ (W : List (Int × Int)) (V : List (Nat → Bool)), rdc T L (rdc T L' W V).1 (rdc T L' W V).2 = rdc T L W V
  | [], V => rfl
  | e :: W, [] => by
    by_cases q : L' ≤ rk5 e.1
    · rw [show rdc T L' (e :: W) [] = (e :: W, []) from if_pos q]
    · rw [rdc_n q]
  | e :: W, [g] => by
    by_cases q : L' ≤ rk5 e.1
    · rw [show rdc T L' (e :: W) [g] = (e :: W, [g]) from if_pos q]
    · rw [rdc_n q]
  | e :: W, g :: f :: V => by
    by_cases q : L' ≤ rk5 e.1
    · rw [rdc_p q, rdc_p (show L ≤ rk5 e.1 by omega)]
      exact rdc_rdc h W _
    · rw [rdc_n q]
/-- a reader that eats a token or more, and no more than there are -/
def PRG (m : Nat) (f : Nat → Nat × Nat × (Nat → Bool)) : Prop := ∀ i, i ≤ m → (f i).1 = 0 → i < (f i).2.1 ∧ (f i).2.1 ≤ m
section SI1
variable {K : Nat → Nat} {T m : Nat} {f : Nat → Nat × Nat × (Nat → Bool)}
theorem prg_lit {k op i : Nat} (hlt : ∀ j, j ≤ m → K j ≠ 264 → K j ≠ 265 → j < m) (hp : PRG m f) (hk : k ≠ 264 ∧ k ≠ 265) (hi : i ≤ m) : ∀ t, (∀ u, u < t → (lit T op f i u).1 = 0 ∧ K (lit T op f i u).2.1 = k) → (lit T op f i t).1 = 0 → i + 2 * t < (lit T op f i t).2.1 ∧ (lit T op f i t).2.1 ≤ m
  | 0, _, h => hp i hi h
  | t + 1, hu, h => by
    have h1 := hu t (Nat.lt_succ_self _)
    have ih := prg_lit hlt hp hk hi t (fun u q => hu u (Nat.lt_succ_of_lt q)) h1.1
    have h2 := hlt _ ih.2 (by rw [h1.2]; exact hk.1) (by rw [h1.2]; exact hk.2)
    have h3 := hp ((lit T op f i t).2.1 + 1) h2 h
    refine ⟨?_, h3.2⟩
    have h4 : (lit T op f i t).2.1 + 1 < (lit T op f i (t + 1)).2.1 := h3.1
    omega
theorem lnN_lt {k op i : Nat} (hm : m ≤ 400) (hlt : ∀ j, j ≤ m → K j ≠ 264 → K j ≠ 265 → j < m) (hp : PRG m f) (hk : k ≠ 264 ∧ k ≠ 265) (hi : i ≤ m) : lnN K T k op f i < 400 := by
  have hN := lnN_ok K T k op f i
  refine Classical.byContradiction fun c => ?_
  have h1 := prg_lit (T := T) (op := op) hlt hp hk hi 399 (fun u hu => hN.2.1 u (by omega)) (hN.2.1 399 (by omega)).1
  omega
theorem prg_lev {k op : Nat} (hlt : ∀ j, j ≤ m → K j ≠ 264 → K j ≠ 265 → j < m) (hp : PRG m f) (hk : k ≠ 264 ∧ k ≠ 265) : PRG m (lev K T k op f) := fun i hi h => by
  have hN := lnN_ok K T k op f i
  have h1 := prg_lit (T := T) (op := op) hlt hp hk hi _ hN.2.1 h
  exact ⟨by have h2 := h1.1; show i < (lit T op f i (lnN K T k op f i)).2.1; omega, h1.2⟩
theorem prg_ivS (hp : PRG m f) : PRG m (ivS K T f) := fun i hi h => by
  have h1 := ivS_1 K T f i
  rw [h1.1] at h
  rw [h1.2]
  exact hp i hi h
theorem prg_frm (hlt : ∀ j, j ≤ m → K j ≠ 264 → K j ≠ 265 → j < m) (hp : PRG m f) : PRG m (frm K T f) := prg_lev hlt (prg_lev hlt (prg_ivS (prg_lev hlt (prg_lev hlt (prg_lev hlt hp (by decide)) (by decide)) (by decide))) (by decide)) (by decide)
end SI1
def nxq (K : Nat → Nat) (P : Bool → List (Int × Int) → List (Nat → Bool) → Nat → Prop) (Q : Nat → Nat → Prop) (b : Bool) (W : List (Int × Int)) (V : List (Nat → Bool)) (i : Nat) : Prop := if K i = 265 then Q 1 i else P b W V i
/-- from a wait for an operand the machine comes behind what f reads -/
def SIM (K : Nat → Nat) (T m : Nat) (P : Bool → List (Int × Int) → List (Nat → Bool) → Nat → Prop) (Q : Nat → Nat → Prop) (dd : Nat) (f : Nat → Nat × Nat × (Nat → Bool)) (r : Int) : Prop := ∀ W V i, i ≤ m → rkT W < r → npf W → dpW W = dd → (∀ W2 V2, (f i).1 = 0 → (∀ L, rkT W < L → L ≤ r → rdc T L W2 V2 = (W, (f i).2.2 :: V)) → rk5 (rc (K (f i).2.1)) < r → nxq K P Q false W2 V2 (f i).2.1) → ((f i).1 ≠ 0 → Q (f i).1 (f i).2.1) → nxq K P Q true W V i
section SI2
variable {K : Nat → Nat} {T m dd : Nat} {P : Bool → List (Int × Int) → List (Nat → Bool) → Nat → Prop} {Q : Nat → Nat → Prop} {f : Nat → Nat × Nat × (Nat → Bool)}
theorem dpW_op {c : Int} {W : List (Int × Int)} (h : 0 < rk5 c) : dpW ((c, 0) :: W) = dpW W := by
  have := (rk5_b c).2.2 h
  show (if c = 300 ∨ c = 303 ∨ c = 40 then 1 else 0) + dpW W = dpW W
  rw [if_neg (by omega), Nat.zero_add]
theorem sim_lev {k op : Nat} {r : Int} (hm : m ≤ 400) (hlt : ∀ j, j ≤ m → K j ≠ 264 → K j ≠ 265 → j < m) (hp : PRG m f) (hk : k ≠ 264 ∧ k ≠ 265) (hk6 : k ≠ 256) (hkr : rk5 (rc k) = r) (hop : opc (rc k) = op) (hr : 1 ≤ r) (huq : ∀ i, rk5 (rc (K i)) = r → K i = k)
  (h5 : ∀ W V i, K i ≠ 265 → 0 < rk5 (rc (K i)) → nxq K P Q true ((rc (K i), 0) :: (rdc T (if K i = 256 then 3 else rk5 (rc (K i))) W V).1) (rdc T (if K i = 256 then 3 else rk5 (rc (K i))) W V).2 (i + 1) → P false W V i)
  (hs : SIM K T m P Q dd f (r + 1)) : SIM K T m P Q dd (lev K T k op f) r := by
  intro W V i hi hrk hnp hdd hok hbad
  have hN := lnN_ok K T k op f i
  have hNl := lnN_lt (T := T) (op := op) hm hlt hp hk hi
  have hc := (rk5_b (rc k)).2.2 (by omega)
  have key : ∀ u t, t + u = lnN K T k op f i → (∀ W2 V2, (lit T op f i t).1 = 0 → (∀ L, rkT W < L → L ≤ r → rdc T L W2 V2 = (W, (lit T op f i t).2.2 :: V)) → rk5 (rc (K (lit T op f i t).2.1)) < r + 1 → nxq K P Q false W2 V2 (lit T op f i t).2.1) ∧ ((lit T op f i t).1 ≠ 0 → Q (lit T op f i t).1 (lit T op f i t).2.1) := by
    intro u
    induction u with
    | zero =>
      intro t ht
      have ht : t = lnN K T k op f i := ht
      rw [ht]
      refine ⟨fun W2 V2 h1 h2 h3 => hok W2 V2 h1 h2 ?_, hbad⟩
      refine Classical.byContradiction fun c => hN.2.2 hNl ⟨h1, huq _ ?_⟩
      have c : ¬ rk5 (rc (K (lit T op f i (lnN K T k op f i)).2.1)) < r := c
      omega
    | succ u ih =>
      intro t ht
      have hgo := hN.2.1 t (by omega)
      have ihh := ih (t + 1) (by omega)
      refine ⟨fun W2 V2 h1 h2 h3 => ?_, fun z => absurd hgo.1 z⟩
      have hj := prg_lit (T := T) (op := op) hlt hp hk hi t (fun u q => hN.2.1 u (by omega)) hgo.1
      have hj2 := hlt _ hj.2 (by rw [hgo.2]; exact hk.1) (by rw [hgo.2]; exact hk.2)
      unfold nxq
      rw [if_neg (by rw [hgo.2]; exact hk.2)]
      have hq := h5 W2 V2 (lit T op f i t).2.1
      rw [hgo.2, if_neg hk6, hkr, h2 r hrk (Int.le_refl _)] at hq
      refine hq hk.2 (by omega) ?_
      refine hs ((rc k, 0) :: W) ((lit T op f i t).2.2 :: V) _ hj2 (by show rk5 (rc k) < r + 1; omega) (by show ¬ 300 ≤ rc k; omega) ((dpW_op (by omega)).trans hdd) (fun W3 V3 q1 q2 q3 => ?_) ihh.2
      refine ihh.1 W3 V3 q1 (fun L l1 l2 => ?_) q3
      have e1 := q2 (r + 1) (by show rk5 (rc k) < r + 1; omega) (Int.le_refl _)
      rw [← rdc_rdc (show L ≤ r + 1 by omega) W3 V3, e1, rdc_p (by show L ≤ rk5 (rc k); omega), rdc_stop l1]
      show (W, jnT T (opc (rc k)) _ _ :: V) = _
      rw [hop]
      rfl
  exact hs W V i hi (by omega) hnp hdd (fun W2 V2 q1 q2 q3 => (key _ 0 (Nat.zero_add _)).1 W2 V2 q1 (fun L l1 l2 => q2 L l1 (by omega)) q3) (key _ 0 (Nat.zero_add _)).2
/-- arrows: what stands before the last one -/
def hhA (T : Nat) (F : Nat → Nat × Nat × (Nat → Bool)) (i : Nat) : Nat → (Nat → Bool) → Nat → Bool
  | 0, z => z
  | t + 1, z => jnT T 1 (lit T 1 F i t).2.2 z
theorem hhA_arr {F : Nat → Nat × Nat × (Nat → Bool)} {i : Nat} {x z : Nat → Bool} : ∀ t, hhA T F i t (jnT T 3 x z) = jnT T 1 (hhA T F i t (ivt T x)) z
  | 0 => funext fun r => by
    show (jn 3 (x r) (z r) && decide (r < T)) = (jn 1 (ivt T x r) (z r) && decide (r < T))
    rw [ivt_not]
    show ((!x r || z r) && decide (r < T)) = ((!x r && decide (r < T) || z r) && decide (r < T))
    cases decide (r < T) <;> cases x r <;> cases z r <;> rfl
  | t + 1 => funext fun r => by
    show (jn 1 ((lit T 1 F i t).2.2 r) (jn 3 (x r) (z r) && decide (r < T)) && decide (r < T)) = (jn 1 (jn 1 ((lit T 1 F i t).2.2 r) (ivt T x r) && decide (r < T)) (z r) && decide (r < T))
    rw [ivt_not]
    show (((lit T 1 F i t).2.2 r || ((!x r || z r) && decide (r < T))) && decide (r < T)) = ((((lit T 1 F i t).2.2 r || !x r && decide (r < T)) && decide (r < T) || z r) && decide (r < T))
    cases decide (r < T) <;> cases x r <;> cases z r <;> cases (lit T 1 F i t).2.2 r <;> rfl
def pos (T : Nat) (F : Nat → Nat × Nat × (Nat → Bool)) (i : Nat) : Nat → Nat
  | 0 => i
  | t + 1 => (lit T 1 F i t).2.1 + 1
theorem lit_pos {F : Nat → Nat × Nat × (Nat → Bool)} {i : Nat} : ∀ t, (lit T 1 F i t).1 = (F (pos T F i t)).1 ∧ (lit T 1 F i t).2.1 = (F (pos T F i t)).2.1 ∧ (lit T 1 F i t).2.2 = hhA T F i t (F (pos T F i t)).2.2
  | 0 => ⟨rfl, rfl, rfl⟩
  | _ + 1 => ⟨rfl, rfl, rfl⟩
theorem sim_arr (hm : m ≤ 400) (hlt : ∀ j, j ≤ m → K j ≠ 264 → K j ≠ 265 → j < m) (hp : PRG m f) (huq : ∀ i, rk5 (rc (K i)) = 2 → K i = 256)
  (h5 : ∀ W V i, K i ≠ 265 → 0 < rk5 (rc (K i)) → nxq K P Q true ((rc (K i), 0) :: (rdc T (if K i = 256 then 3 else rk5 (rc (K i))) W V).1) (rdc T (if K i = 256 then 3 else rk5 (rc (K i))) W V).2 (i + 1) → P false W V i)
  (hs : SIM K T m P Q dd f 3) : SIM K T m P Q dd (lev K T 256 1 (ivS K T f)) 2 := by
  intro W V i hi hrk hnp hdd hok hbad
  have hpF : PRG m (ivS K T f) := prg_ivS hp
  have hF := ivS_1 K T f
  have hN := lnN_ok K T 256 1 (ivS K T f) i
  have hNl := lnN_lt (T := T) (op := 1) hm hlt hpF (show 256 ≠ 264 ∧ 256 ≠ 265 by decide) hi
  have hiv : ∀ j, (f j).1 = 0 → (ivS K T f j).2.2 = if K (f j).2.1 = 256 then ivt T (f j).2.2 else (f j).2.2 := by
    intro j hj
    unfold ivS
    by_cases c : K (f j).2.1 = 256
    · rw [if_pos ⟨hj, c⟩, if_pos c]
    · rw [if_neg (fun z => c z.2), if_neg c]
  unfold lev at hok hbad
  generalize hFF : ivS K T f = F at *
  have key : ∀ u t, t + u = lnN K T 256 1 F i → (∀ W2 V2, (lit T 1 F i t).1 = 0 → (∃ W3 V3, rdc T 3 W2 V2 = (W3, (f (pos T F i t)).2.2 :: V3) ∧ rkT W3 < 3 ∧ npf W3 ∧ dpW W3 = dd ∧ ∀ z L, rkT W < L → L ≤ 2 → rdc T L W3 (z :: V3) = (W, hhA T F i t z :: V)) → rk5 (rc (K (lit T 1 F i t).2.1)) < 3 → nxq K P Q false W2 V2 (lit T 1 F i t).2.1) ∧ ((lit T 1 F i t).1 ≠ 0 → Q (lit T 1 F i t).1 (lit T 1 F i t).2.1) := by
    intro u
    induction u with
    | zero =>
      intro t ht
      have ht : t = lnN K T 256 1 F i := ht
      rw [← ht] at hok hbad hN hNl
      refine ⟨fun W2 V2 h1 h2 h3 => ?_, hbad⟩
      have hne : K (lit T 1 F i t).2.1 ≠ 256 := fun z => hN.2.2 hNl ⟨h1, z⟩
      obtain ⟨W3, V3, e1, -, -, -, e2⟩ := h2
      have hlp := lit_pos (T := T) (F := F) (i := i) t
      have hx : (F (pos T F i t)).2.2 = (f (pos T F i t)).2.2 := by
        rw [hiv _ (by rw [← (hF _).1, ← hlp.1]; exact h1), if_neg]
        rw [← (hF _).2, ← hlp.2.1]
        exact hne
      refine hok W2 V2 h1 (fun L l1 l2 => ?_) ?_
      · rw [← rdc_rdc (show L ≤ 3 by omega) W2 V2, e1, e2 _ L l1 l2, hlp.2.2, hx]
      · refine Classical.byContradiction fun c => hne (huq _ ?_)
        omega
    | succ u ih =>
      intro t ht
      have hgo := hN.2.1 t (by omega)
      have ihh := ih (t + 1) (by omega)
      refine ⟨fun W2 V2 h1 h2 h3 => ?_, fun z => absurd hgo.1 z⟩
      obtain ⟨W3, V3, e1, e3, e4, e5, e2⟩ := h2
      have hlp := lit_pos (T := T) (F := F) (i := i) t
      have hx : (F (pos T F i t)).2.2 = ivt T (f (pos T F i t)).2.2 := by
        rw [hiv _ (by rw [← (hF _).1, ← hlp.1]; exact h1), if_pos]
        rw [← (hF _).2, ← hlp.2.1]
        exact hgo.2
      have hj := prg_lit (T := T) (op := 1) hlt hpF (show 256 ≠ 264 ∧ 256 ≠ 265 by decide) hi t (fun u q => hN.2.1 u (by omega)) hgo.1
      have hj2 := hlt _ hj.2 (by rw [hgo.2]; decide) (by rw [hgo.2]; decide)
      unfold nxq
      rw [if_neg (by rw [hgo.2]; decide)]
      have hq := h5 W2 V2 (lit T 1 F i t).2.1
      rw [hgo.2, if_pos rfl, e1] at hq
      refine hq (by decide) (by decide) ?_
      refine hs ((200, 0) :: W3) ((f (pos T F i t)).2.2 :: V3) _ hj2 (by show rk5 200 < 3; decide) (by show ¬ (300 : Int) ≤ 200; decide) ((dpW_op (by decide)).trans e5) (fun W4 V4 q1 q2 q3 => ?_) (fun q => ?_)
      · have e9 : (lit T 1 F i (t + 1)).2.1 = (f ((lit T 1 F i t).2.1 + 1)).2.1 := (hF _).2
        rw [← e9]
        refine ihh.1 W4 V4 ?_ ⟨(200, 0) :: W3, (f (pos T F i t)).2.2 :: V3, q2 3 (by show rk5 200 < 3; decide) (Int.le_refl _), (by show rk5 200 < 3; decide), (by show ¬ (300 : Int) ≤ 200; decide), (dpW_op (by decide)).trans e5, fun z L l1 l2 => ?_⟩ ?_
        · exact (hF _).1.trans q1
        · rw [rdc_p (by show L ≤ rk5 200; exact l2), e2 _ L l1 l2]
          refine congrArg (fun z => (W, z :: V)) ?_
          show hhA T F i t (jnT T 3 _ z) = jnT T 1 (lit T 1 F i t).2.2 z
          rw [hhA_arr, hlp.2.2, hx]
        · rw [e9]
          exact q3
      · have h9 := ihh.2 (fun z => q ((hF _).1.symm.trans z))
        rw [show (lit T 1 F i (t + 1)).2.1 = (f ((lit T 1 F i t).2.1 + 1)).2.1 from (hF _).2, show (lit T 1 F i (t + 1)).1 = (f ((lit T 1 F i t).2.1 + 1)).1 from (hF _).1] at h9
        exact h9
  have hl0 : (lit T 1 F i 0).1 = (f i).1 ∧ (lit T 1 F i 0).2.1 = (f i).2.1 := hF i
  have k0 := key _ 0 (Nat.zero_add _)
  rw [hl0.1, hl0.2] at k0
  refine hs W V i hi (by omega) hnp hdd (fun W2 V2 q1 q2 q3 => k0.1 W2 V2 q1 ⟨W, V, q2 3 (by omega) (Int.le_refl _), by omega, hnp, hdd, fun z L l1 l2 => rdc_stop l1⟩ q3) k0.2
theorem sim_frm (hm : m ≤ 400) (hlt : ∀ j, j ≤ m → K j ≠ 264 → K j ≠ 265 → j < m) (hK : ∀ i, K i ≤ 265 ∧ K i ≠ 200 ∧ K i ≠ 201) (hp : PRG m f)
  (h5 : ∀ W V i, K i ≠ 265 → 0 < rk5 (rc (K i)) → nxq K P Q true ((rc (K i), 0) :: (rdc T (if K i = 256 then 3 else rk5 (rc (K i))) W V).1) (rdc T (if K i = 256 then 3 else rk5 (rc (K i))) W V).2 (i + 1) → P false W V i)
  (hs : SIM K T m P Q dd f 6) : SIM K T m P Q dd (frm K T f) 1 := by
  have hu : ∀ (r : Int) (k : Nat), (k = 257 ∧ r = 1 ∨ k = 256 ∧ r = 2 ∨ k = 124 ∧ r = 3 ∨ k = 94 ∧ r = 4 ∨ k = 38 ∧ r = 5) → ∀ i, rk5 (rc (K i)) = r → K i = k := by
    intro r k h i h2
    rw [rk5_rc (hK i).1 (hK i).2.1 (hK i).2.2] at h2
    revert h2
    repeat' split
    all_goals omega
  have p5 := prg_lev (T := T) (op := 0) hlt hp (show 38 ≠ 264 ∧ 38 ≠ 265 by decide)
  have p4 := prg_lev (T := T) (op := 2) hlt p5 (show 94 ≠ 264 ∧ 94 ≠ 265 by decide)
  have p3 := prg_lev (T := T) (op := 1) hlt p4 (show 124 ≠ 264 ∧ 124 ≠ 265 by decide)
  have p2 := prg_lev (T := T) (op := 1) hlt (prg_ivS (K := K) (T := T) p3) (show 256 ≠ 264 ∧ 256 ≠ 265 by decide)
  have s5 := sim_lev (k := 38) (op := 0) (r := 5) hm hlt hp (by decide) (by decide) (by decide) (by decide) (by decide) (hu 5 38 (by omega)) h5 hs
  have s4 := sim_lev (k := 94) (op := 2) (r := 4) hm hlt p5 (by decide) (by decide) (by decide) (by decide) (by decide) (hu 4 94 (by omega)) h5 s5
  have s3 := sim_lev (k := 124) (op := 1) (r := 3) hm hlt p4 (by decide) (by decide) (by decide) (by decide) (by decide) (hu 3 124 (by omega)) h5 s4
  have s2 := sim_arr hm hlt p3 (hu 2 256 (by omega)) h5 s3
  exact sim_lev (k := 257) (op := 4) (r := 1) hm hlt p2 (by decide) (by decide) (by decide) (by decide) (by decide) (hu 1 257 (by omega)) h5 s2
end SI2
