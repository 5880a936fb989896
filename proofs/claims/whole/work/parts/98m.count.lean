/-! ===== as many nodes as tables ===== -/
theorem enumB (P : Nat → Bool) : ∀ U : Nat, ∃ q : Nat → Nat, (∀ i, i < cntB P U → q i < U ∧ P (q i) = true) ∧ (∀ i j, i < cntB P U → j < cntB P U → q i = q j → i = j) ∧ (∀ x, x < U → P x = true → ∃ i, i < cntB P U ∧ q i = x)
  | 0 => ⟨fun _ => 0, fun i hi => absurd hi (Nat.not_lt_zero i), fun i j hi => absurd hi (Nat.not_lt_zero i), fun x hx => absurd hx (Nat.not_lt_zero x)⟩
  | U + 1 => by
    obtain ⟨q, h1, h2, h3⟩ := enumB P U
    have hc : cntB P (U + 1) = cntB P U + if P U then 1 else 0 := rfl
    cases hp : P U with
    | false =>
      rw [hp, if_neg (by decide)] at hc
      rw [hc]
      refine ⟨q, fun i hi => ⟨by have := (h1 i hi).1; omega, (h1 i hi).2⟩, h2, fun x hx hx2 => ?_⟩
      have : x ≠ U := fun z => by rw [z, hp] at hx2; exact absurd hx2 (by decide)
      exact h3 x (by omega) hx2
    | true =>
      rw [hp, if_pos rfl] at hc
      rw [hc]
      refine ⟨fup q (cntB P U) U, fun i hi => ?_, fun i j hi hj e => ?_, fun x hx hx2 => ?_⟩
      · by_cases c : i = cntB P U
        · rw [c, fup_at]
          exact ⟨by omega, hp⟩
        · rw [fup_ne c]
          have := h1 i (by omega)
          exact ⟨by omega, this.2⟩
      · by_cases c : i = cntB P U
        · by_cases c2 : j = cntB P U
          · omega
          · rw [c, fup_at, fup_ne c2] at e
            have := (h1 j (by omega)).1
            omega
        · by_cases c2 : j = cntB P U
          · rw [c2, fup_at, fup_ne c] at e
            have := (h1 i (by omega)).1
            omega
          · rw [fup_ne c, fup_ne c2] at e
            exact h2 i j (by omega) (by omega) e
      · by_cases c : x = U
        · exact ⟨cntB P U, by omega, by rw [fup_at, c]⟩
        · obtain ⟨i, hi, e⟩ := h3 x (by omega) hx2
          exact ⟨i, by omega, by rw [fup_ne (by omega)]; exact e⟩
/-- how many functions have a root -/
def exF (rt : Nat → Nat) (fn : Nat) : Nat → Nat := fun x => cntB (fun f => decide (rt f = x)) fn
theorem exF_ex {rt : Nat → Nat} {fn x : Nat} (h : 0 < exF rt fn x) : ∃ f, f < fn ∧ rt f = x := by
  obtain ⟨f, h1, h2⟩ := anyB_iff.mp ((cntB_any _ _).mp h)
  exact ⟨f, h1, of_decide_eq_true h2⟩
theorem exF_pos {rt : Nat → Nat} {fn f : Nat} (h : f < fn) : 0 < exF rt fn (rt f) := (cntB_any _ _).mpr (anyB_iff.mpr ⟨f, h, decide_eq_true rfl⟩)
theorem exF_le (rt : Nat → Nat) (fn x : Nat) : exF rt fn x ≤ fn := cntB_le _ _
theorem exF_s (rt : Nat → Nat) (fn y : Nat) : exF (fup rt fn y) (fn + 1) = exA (exF rt fn) y := funext fun z => by
  show cntB (fun f => decide (fup rt fn y f = z)) fn + (if decide (fup rt fn y fn = z) then 1 else 0) = cntB (fun f => decide (rt f = z)) fn + if z = y then 1 else 0
  rw [cntB_cg (q := fun f => decide (rt f = z)) (fun f hf => by rw [fup_ne (by omega)]), fup_at]
  by_cases c : y = z
  · rw [decide_eq_true c, if_pos rfl, if_pos c.symm]
  · rw [decide_eq_false c, if_neg (by decide), if_neg (fun h => c h.symm)]
section DZ
variable {n U fn : Nat} {sz ord pl rt : Nat → Nat} {D : DT} {Fn : Nat → Nat → Bool}
theorem leaf_lf (hw : wf n sz) (hP : dP n sz D 0 U) {x : Nat} (hx : x < 2) : lfv (pr sz n) (ds D x) ≠ -1 := by
  have hT := hw.2.2
  have h0 := hw.pos (Nat.le_refl n)
  have h2 : x = 0 ∨ x = 1 := by omega
  rcases h2 with h2 | h2
  · rw [h2, hP.2.2.2.2.1, (lfv_0 hT h0 (fun _ _ => rfl)).mpr (fun _ _ => rfl)]
    decide
  · rw [h2, hP.2.2.2.2.2.1, (lfv_1 (f := evr (pr sz n)) hT h0 (fun r hr => decide_eq_false (by omega))).mpr (fun r hr => decide_eq_true hr)]
    decide
theorem live_of (hw : wf n sz) (hP : dP n sz D 0 U) {x : Nat} (hx : dok D 0 x) (h : lfv (pr sz n) (ds D x) = -1) : dl D x = true := by
  rcases hx with h1 | h1 | h1
  · exact absurd h (leaf_lf hw hP h1)
  · exact h1
  · exact absurd h (leaf_lf hw hP (by omega))
theorem live_lf (hw : wf n sz) (hP : dP n sz D 0 U) {x : Nat} (hx : dl D x = true) : lfv (pr sz n) (ds D x) = -1 := by
  have h1 := hP.2.2.1 x hx
  exact lfv_no hw h1.2.1 h1.2.2 h1.1
/-- from functions down to every node -/
theorem live_ind (hw : wf n sz) (ho : prm n ord pl) (hP : dP n sz D 0 U) (hc : cnO n sz ord D) (hu : uO sz D 0 U (exF rt fn)) (Q : (Nat → Bool) → Prop) (h0 : ∀ f, f < fn → dl D (rt f) = true → Q (ds D (rt f))) (h1 : ∀ y, dl D y = true → Q (ds D y) → ∀ k, k < sz (ord (fpl n sz ord (ds D y))) → lfv (pr sz n) (cof n sz (ds D y) (ord (fpl n sz ord (ds D y))) k) = -1 → Q (cof n sz (ds D y) (ord (fpl n sz ord (ds D y))) k)) : ∀ x, dl D x = true → Q (ds D x) := by
  have key : ∀ m x, dl D x = true → fpl n sz ord (ds D x) < m → Q (ds D x) := by
    intro m
    induction m with
    | zero => intro x _ h; omega
    | succ m ih =>
      intro x hx hm
      have h2 := hu x (hP.1 x hx).1 (Or.inr (Or.inl hx))
      by_cases c : 0 < exF rt fn x
      · obtain ⟨f, h3, h4⟩ := exF_ex c
        rw [← h4] at hx ⊢
        exact h0 f h3 hx
      · obtain ⟨y, k, h3, h4, h5, h6⟩ := edg_ex (sz := sz) (D := D) (U := U) (z := x) (by omega)
        obtain ⟨h7, h8⟩ := cn_fpl hw ho hP hc h4
        have h9 := (hP.2.2.2.1 y h4 k h5).2
        rw [h8] at h5 h9
        rw [h6] at h9
        have h10 := fpl_gt hw ho h7 h5
        rw [← h9] at h10
        rw [h9]
        exact h1 y h4 (ih y h4 (by omega)) k h5 (by rw [← h9]; exact live_lf hw hP hx)
  exact fun x hx => key (fpl n sz ord (ds D x) + 1) x hx (by omega)
theorem cnt_8910 (hw : wf n sz) (ho : prm n ord pl) (hP : dP n sz D 0 U) (hc : cnO n sz ord D) (hu : uO sz D 0 U (exF rt fn)) (h40 : fn ≤ 40) (hrt : ∀ f, f < fn → dok D 0 (rt f) ∧ ds D (rt f) = Fn f) (htb : ∀ f, f < fn → tbT (pr sz n) (Fn f)) : cntB (dl D) U ≤ 8910 := by
  have hip := live_ind hw ho hP hc hu (isP n sz ord fn Fn) (fun f hf _ => by
    rw [(hrt f hf).2]
    exact isP_root hw ho hf (htb f hf)) (fun y hy hq k hk _ => isP_kid hw ho hq (cn_fpl hw ho hP hc hy).1 hk)
  obtain ⟨q, h1, h2, h3⟩ := enumB (dl D) U
  refine LS_le hw ho h40 (L := fun i => ds D (q i)) ⟨fun j hj => ⟨(hP.2.2.1 _ (h1 j hj).2).2.1, live_lf hw hP (h1 j hj).2, hip _ (h1 j hj).2⟩, fun i j hij hj => ?_⟩
  cases e : eqW (ds D (q i)) (ds D (q j)) with
  | false => rfl
  | true =>
    have h4 := (eqW_tb hw.2.2 (hP.2.2.1 _ (h1 i (by omega)).2).2.1 (hP.2.2.1 _ (h1 j hj).2).2.1).mp e
    have h5 := hP.2.2.2.2.2.2 _ _ (Or.inr (Or.inl (h1 i (by omega)).2)) (Or.inr (Or.inl (h1 j hj).2)) h4
    have := h2 i j (by omega) hj h5
    omega
/-- what is in a list after a table is added -/
theorem addN_of {T c j : Nat} {L : Nat → Nat → Bool} {g : Nat → Bool} (hj : j < (addN T c L g).1) : (j < c ∧ (addN T c L g).2 j = L j) ∨ ((addN T c L g).2 j = g ∧ lfv T g = -1) := by
  unfold addN at *
  by_cases c1 : lfv T g ≠ -1
  · rw [if_pos c1] at hj ⊢
    exact Or.inl ⟨hj, rfl⟩
  · rw [if_neg c1] at hj ⊢
    by_cases c2 : fbF (fun i => eqW (L i) g) c 0 < c
    · rw [if_pos c2] at hj ⊢
      exact Or.inl ⟨hj, rfl⟩
    · rw [if_neg c2] at hj ⊢
      have hj : j < c + 1 := hj
      by_cases c3 : j = c
      · exact Or.inr ⟨(if_pos c3), Classical.not_not.mp c1⟩
      · exact Or.inl ⟨by omega, if_neg c3⟩
theorem addN_in {T c : Nat} {L : Nat → Nat → Bool} {g : Nat → Bool} (hT : T ≤ 1024) (hg : tbT T g) (hL : ∀ j, j < c → tbT T (L j)) (h : lfv T g = -1) : ∃ j, j < (addN T c L g).1 ∧ (addN T c L g).2 j = g := by
  unfold addN
  rw [if_neg (fun z => z h)]
  by_cases c2 : fbF (fun i => eqW (L i) g) c 0 < c
  · rw [if_pos c2]
    have h1 := (fbF_ok (fun i => eqW (L i) g) c 0).2.2 (by omega)
    exact ⟨_, c2, (eqW_tb hT (hL _ c2) hg).mp h1⟩
  · rw [if_neg c2]
    exact ⟨c, (show c < c + 1 by omega), if_pos rfl⟩
/-- the lists hold what functions and cofactors give, no more -/
theorem addF_sub (Q : (Nat → Bool) → Prop) : ∀ {f : Nat}, (∀ g, g < f → lfv (pr sz n) (Fn g) = -1 → Q (Fn g)) → ∀ j, j < (addF n sz Fn f).1 → Q ((addF n sz Fn f).2 j)
  | 0, _, j, hj => absurd hj (Nat.not_lt_zero j)
  | f + 1, h, j, hj => by
    rcases addN_of (T := pr sz n) (c := (addF n sz Fn f).1) (L := (addF n sz Fn f).2) (g := Fn f) hj with ⟨h1, h2⟩ | ⟨h1, h2⟩
    · show Q ((addN (pr sz n) (addF n sz Fn f).1 (addF n sz Fn f).2 (Fn f)).2 j)
      rw [h2]
      exact addF_sub Q (fun g hg => h g (by omega)) j h1
    · show Q ((addN (pr sz n) (addF n sz Fn f).1 (addF n sz Fn f).2 (Fn f)).2 j)
      rw [h1]
      exact h f (by omega) h2
theorem addF_sup (hT : pr sz n ≤ 1024) (htb : ∀ f, f < fn → tbT (pr sz n) (Fn f)) : ∀ {f : Nat}, f ≤ fn → (∀ j, j < (addF n sz Fn f).1 → tbT (pr sz n) ((addF n sz Fn f).2 j)) ∧ ∀ g, g < f → lfv (pr sz n) (Fn g) = -1 → ∃ j, j < (addF n sz Fn f).1 ∧ (addF n sz Fn f).2 j = Fn g
  | 0, _ => ⟨fun j hj => absurd hj (Nat.not_lt_zero j), fun g hg => absurd hg (Nat.not_lt_zero g)⟩
  | f + 1, h => by
    obtain ⟨h1, h2⟩ := addF_sup hT htb (f := f) (by omega)
    refine ⟨fun j hj => ?_, fun g hg hl => ?_⟩
    · exact addF_sub (f := f + 1) (tbT (pr sz n)) (fun g hg _ => htb g (by omega)) j hj
    · by_cases c : g = f
      · subst c
        exact addN_in hT (htb g (by omega)) h1 hl
      · obtain ⟨j, h3, h4⟩ := h2 g (by omega) hl
        have h5 := addN_ext (c := (addF n sz Fn f).1) (L := (addF n sz Fn f).2) (pr sz n) (Fn f)
        exact ⟨j, Nat.lt_of_lt_of_le h3 h5.1, (h5.2 j h3).trans h4⟩
theorem addK_of (Q : (Nat → Bool) → Prop) {g : Nat → Bool} {v c : Nat} {L : Nat → Nat → Bool} (hL : ∀ j, j < c → Q (L j)) : ∀ {k : Nat}, (∀ i, i < k → lfv (pr sz n) (cof n sz g v i) = -1 → Q (cof n sz g v i)) → ∀ j, j < (addK n sz g v c L k).1 → Q ((addK n sz g v c L k).2 j)
  | 0, _, j, hj => hL j hj
  | k + 1, h, j, hj => by
    rcases addN_of (T := pr sz n) (c := (addK n sz g v c L k).1) (L := (addK n sz g v c L k).2) (g := cof n sz g v k) hj with ⟨h1, h2⟩ | ⟨h1, h2⟩
    · show Q ((addN (pr sz n) (addK n sz g v c L k).1 (addK n sz g v c L k).2 (cof n sz g v k)).2 j)
      rw [h2]
      exact addK_of Q hL (fun i hi => h i (by omega)) j h1
    · show Q ((addN (pr sz n) (addK n sz g v c L k).1 (addK n sz g v c L k).2 (cof n sz g v k)).2 j)
      rw [h1]
      exact h k (by omega) h2
theorem addK_in (hT : pr sz n ≤ 1024) {g : Nat → Bool} {v c : Nat} {L : Nat → Nat → Bool} (hL : ∀ j, j < c → tbT (pr sz n) (L j)) {k i : Nat} (hi : i < k) (hl : lfv (pr sz n) (cof n sz g v i) = -1) : ∃ j, j < (addK n sz g v c L k).1 ∧ (addK n sz g v c L k).2 j = cof n sz g v i := by
  have h1 := addN_in (T := pr sz n) (c := (addK n sz g v c L i).1) (L := (addK n sz g v c L i).2) hT (cof_tb n sz g v i) (addK_of (tbT (pr sz n)) hL (fun _ _ _ => cof_tb _ _ _ _ _)) hl
  obtain ⟨j, h2, h3⟩ := h1
  have h4 := addK_ext (n := n) (sz := sz) (c := c) (L := L) g v (i := i + 1) (k := k) (by omega)
  exact ⟨j, Nat.lt_of_lt_of_le h2 h4.1, (h4.2 j h2).trans h3⟩
theorem bfs_sub (Q : (Nat → Bool) → Prop) {c : Nat} {L : Nat → Nat → Bool} (h0 : ∀ j, j < c → Q (L j)) (h1 : ∀ g, Q g → ∀ k, k < sz (ord (fpl n sz ord g)) → lfv (pr sz n) (cof n sz g (ord (fpl n sz ord g)) k) = -1 → Q (cof n sz g (ord (fpl n sz ord g)) k)) : ∀ {i : Nat}, (∀ j, j < i → j < (bfs n sz ord c L j).1) → ∀ j, j < (bfs n sz ord c L i).1 → Q ((bfs n sz ord c L i).2 j)
  | 0, _, j, hj => h0 j hj
  | i + 1, hr, j, hj => by
    have ih := bfs_sub Q h0 h1 (i := i) (fun j hj => hr j (by omega))
    exact addK_of Q ih (fun k hk => h1 _ (ih i (hr i (by omega))) k hk) j hj
theorem bfs_sup (hT : pr sz n ≤ 1024) {c N : Nat} {L : Nat → Nat → Bool} (hL : ∀ j, j < c → tbT (pr sz n) (L j)) (hE : bEnd n sz ord c L N) {j : Nat} (hj : j < N) {k : Nat} (hk : k < sz (ord (fpl n sz ord ((bfs n sz ord c L N).2 j)))) (hl : lfv (pr sz n) (cof n sz ((bfs n sz ord c L N).2 j) (ord (fpl n sz ord ((bfs n sz ord c L N).2 j))) k) = -1) : ∃ i, i < N ∧ (bfs n sz ord c L N).2 i = cof n sz ((bfs n sz ord c L N).2 j) (ord (fpl n sz ord ((bfs n sz ord c L N).2 j))) k := by
  have h1 := hE.2 j hj
  have h2 : (bfs n sz ord c L N).2 j = (bfs n sz ord c L j).2 j := (bfs_ext (n := n) (sz := sz) (ord := ord) (c := c) (L := L) (i := j) (k := N) (by omega)).2 j h1
  rw [h2] at hk hl ⊢
  have htb : ∀ m, m < (bfs n sz ord c L j).1 → tbT (pr sz n) ((bfs n sz ord c L j).2 m) := bfs_sub (tbT (pr sz n)) hL (fun _ _ _ _ _ => cof_tb _ _ _ _ _) (fun m hm => hE.2 m (by omega))
  obtain ⟨i, h3, h4⟩ := addK_in (v := ord (fpl n sz ord ((bfs n sz ord c L j).2 j))) (g := (bfs n sz ord c L j).2 j) hT htb hk hl
  have h5 := bfs_ext (n := n) (sz := sz) (ord := ord) (c := c) (L := L) (i := j + 1) (k := N) (by omega)
  have h3' : i < (bfs n sz ord c L (j + 1)).1 := h3
  refine ⟨i, ?_, (h5.2 i h3').trans h4⟩
  have := h5.1
  have := hE.1
  omega
/-- as many nodes as the reference counts -/
theorem live_N (hw : wf n sz) (ho : prm n ord pl) (hP : dP n sz D 0 U) (hc : cnO n sz ord D) (hu : uO sz D 0 U (exF rt fn)) (hrt : ∀ f, f < fn → dok D 0 (rt f) ∧ ds D (rt f) = Fn f) (htb : ∀ f, f < fn → tbT (pr sz n) (Fn f)) {N : Nat} (hE : bEnd n sz ord (addF n sz Fn fn).1 (addF n sz Fn fn).2 N) : cntB (dl D) U = N := by
  have hT := hw.2.2
  obtain ⟨hF1, hF2⟩ := addF_sup hT htb (Nat.le_refl fn)
  have hsub : ∀ j, j < N → ∃ x, dl D x = true ∧ ds D x = (bfs n sz ord (addF n sz Fn fn).1 (addF n sz Fn fn).2 N).2 j := fun j hj => bfs_sub (fun g => ∃ x, dl D x = true ∧ ds D x = g) (addF_sub (n := n) (sz := sz) (Fn := Fn) (f := fn) (fun g => ∃ x, dl D x = true ∧ ds D x = g) (fun f hf hl => ⟨rt f, live_of hw hP (hrt f hf).1 (by rw [(hrt f hf).2]; exact hl), (hrt f hf).2⟩)) (fun g ⟨x, h1, h2⟩ k hk hl => by
    obtain ⟨h3, h4⟩ := cn_fpl hw ho hP hc h1
    rw [← h2] at hk hl ⊢
    have h5 := hP.2.2.2.1 x h1 k (by rw [h4]; exact hk)
    rw [h4] at h5
    exact ⟨_, live_of hw hP h5.1 (by rw [h5.2]; exact hl), h5.2⟩) hE.2 j (by rw [hE.1]; exact hj)
  have hsup : ∀ x, dl D x = true → ∃ j, j < N ∧ (bfs n sz ord (addF n sz Fn fn).1 (addF n sz Fn fn).2 N).2 j = ds D x := live_ind hw ho hP hc hu (fun g => ∃ j, j < N ∧ (bfs n sz ord (addF n sz Fn fn).1 (addF n sz Fn fn).2 N).2 j = g) (fun f hf hd => by
    have hl := live_lf hw hP hd
    rw [(hrt f hf).2] at hl ⊢
    obtain ⟨j, h1, h2⟩ := hF2 f hf hl
    have h3 := bfs_ext (n := n) (sz := sz) (ord := ord) (c := (addF n sz Fn fn).1) (L := (addF n sz Fn fn).2) (i := 0) (k := N) (by omega)
    have h4 : (addF n sz Fn fn).1 ≤ (bfs n sz ord (addF n sz Fn fn).1 (addF n sz Fn fn).2 N).1 := h3.1
    have h5 := hE.1
    exact ⟨j, by omega, (h3.2 j h1).trans h2⟩) (fun y hy ⟨j, h1, h2⟩ k hk hl => by
    rw [← h2] at hk hl ⊢
    exact bfs_sup hT hF1 hE h1 hk hl)
  refine Nat.le_antisymm (pigeonC (fun x j => (bfs n sz ord (addF n sz Fn fn).1 (addF n sz Fn fn).2 N).2 j = ds D x) (fun x _ hx => hsup x hx) (fun x y j _ _ hx hy h1 h2 => hP.2.2.2.2.2.2 x y (Or.inr (Or.inl hx)) (Or.inr (Or.inl hy)) (h1.symm.trans h2))) ?_
  have hd : ∀ i j, i < N → j < N → (bfs n sz ord (addF n sz Fn fn).1 (addF n sz Fn fn).2 N).2 i = (bfs n sz ord (addF n sz Fn fn).1 (addF n sz Fn fn).2 N).2 j → i = j := fun i j hi hj e => by
    have h1 := addF_LS hw ho htb (Nat.le_refl fn)
    have h2 := bfs_LS hw ho h1 (i := N) hE.2
    rw [hE.1] at h2
    exact LS_inj h2 hi hj e
  have hsk : ∀ j, ∃ x, j < N → (dl D x = true ∧ ds D x = (bfs n sz ord (addF n sz Fn fn).1 (addF n sz Fn fn).2 N).2 j) := fun j => by
    by_cases c : j < N
    · obtain ⟨x, hx⟩ := hsub j c
      exact ⟨x, fun _ => hx⟩
    · exact ⟨0, fun h => absurd h c⟩
  obtain ⟨q, hq⟩ := Classical.skolem.mp hsk
  refine inj_cnt (q := q) (fun j hj => ⟨(hP.1 _ (hq j hj).1).2.1, (hq j hj).1⟩) (fun i j hi hj e => ?_)
  have h1 := (hq i hi).2
  rw [e] at h1
  exact hd i j hi hj (h1.symm.trans (hq j hj).2)
end DZ
