/-! ===== longs; Euclid; the reference: best, weights of rows, odds, weigh, part ===== -/
section SLL
variable {X : List Int32} {d m pc p len q : Nat} {ns : Bool} {ls : xx_L} {r : List Value} {S : ST} {K : Nat → xx_L → List Value → ST → Prop}
theorem sK2 {k : Nat} {z : Int} (he : ((xt_P X).1 m).1 pc = some (.ldc2_w k, len, q, ns)) (hp : pc + len = p) (hz : z = (q : Int)) (kk : sT X d m p ls (.long (lI z) :: r) S K) : sT X d m pc ls r S K := by
  subst hp hz
  rw [lI_lN] at kk
  exact xv_loc he rfl kk
theorem sLad {a b : Int} (he : ((xt_P X).1 m).1 pc = some (.ladd, len, q, ns)) (hp : pc + len = p) (kk : sT X d m p ls (.long (lI (a + b)) :: r) S K) : sT X d m pc ls (.long (lI b) :: .long (lI a) :: r) S K := by
  subst hp
  rw [← lI_add] at kk
  exact xv_loc he rfl kk
theorem sLsb {a b : Int} (he : ((xt_P X).1 m).1 pc = some (.lsub, len, q, ns)) (hp : pc + len = p) (kk : sT X d m p ls (.long (lI (a - b)) :: r) S K) : sT X d m pc ls (.long (lI b) :: .long (lI a) :: r) S K := by
  subst hp
  rw [← lI_sub] at kk
  exact xv_loc he rfl kk
theorem sLml {a b : Int} (he : ((xt_P X).1 m).1 pc = some (.lmul, len, q, ns)) (hp : pc + len = p) (kk : sT X d m p ls (.long (lI (a * b)) :: r) S K) : sT X d m pc ls (.long (lI b) :: .long (lI a) :: r) S K := by
  subst hp
  rw [← lI_mul] at kk
  exact xv_loc he rfl kk
theorem lI_nz {b : Int} (hb : 0 < b ∧ b < 9223372036854775808) : ¬ lI b = 0 := fun z => by
  have := (lI_eq (a := b) (b := 0) ⟨by omega, hb.2⟩ ⟨by omega, by omega⟩).mp z
  omega
theorem sLdv {a b : Int} (he : ((xt_P X).1 m).1 pc = some (.ldiv, len, q, ns)) (hp : pc + len = p) (ha : 0 ≤ a ∧ a < 9223372036854775808) (hb : 0 < b ∧ b < 9223372036854775808) (kk : sT X d m p ls (.long (lI (a / b)) :: r) S K) : sT X d m pc ls (.long (lI b) :: .long (lI a) :: r) S K := by
  subst hp
  rw [← lI_div ha.1 ha.2 hb.1 hb.2] at kk
  exact xv_loc he (if_neg (lI_nz hb)) kk
theorem sLrm {a b : Int} (he : ((xt_P X).1 m).1 pc = some (.lrem, len, q, ns)) (hp : pc + len = p) (ha : 0 ≤ a ∧ a < 9223372036854775808) (hb : 0 < b ∧ b < 9223372036854775808) (kk : sT X d m p ls (.long (lI (a % b)) :: r) S K) : sT X d m pc ls (.long (lI b) :: .long (lI a) :: r) S K := by
  subst hp
  have e : lI a - lI a / lI b * lI b = lI (a % b) := by
    rw [lI_div ha.1 ha.2 hb.1 hb.2, lI_mul, lI_sub, Int.emod_def, Int.mul_comm]
  rw [← e] at kk
  exact xv_loc he (if_neg (lI_nz hb)) kk
end SLL
/-- Euclid's rounds -/
def est (a b : Nat) : Nat := if h : b = 0 then 0 else est b (a % b) + 1
termination_by b
decreasing_by exact Nat.mod_lt _ (by omega)
theorem est_0 (a : Nat) : est a 0 = 0 := by
  unfold est
  rfl
theorem est_s {a b : Nat} (h : b ≠ 0) : est a b = est b (a % b) + 1 := by
  rw [est]
  exact dif_neg h
theorem est_z {a b : Nat} (h : est a b = 0) : b = 0 := Classical.byContradiction fun c => by
  rw [est_s c] at h
  omega
theorem est_le : ∀ k a b : Nat, b < 2 ^ k → est a b ≤ 2 * k
  | 0, a, b, h => by
    obtain rfl : b = 0 := by omega
    rw [est_0]
    omega
  | k + 1, a, b, h => by
    by_cases h0 : b = 0
    · subst h0
      rw [est_0]
      omega
    · rw [est_s h0]
      by_cases h1 : a % b = 0
      · rw [h1, est_0]
        omega
      · rw [est_s h1]
        have hb := Nat.mod_lt a (show 0 < b by omega)
        have h2 := Nat.mod_lt b (show 0 < a % b by omega)
        have h3 : b % (a % b) + a % b ≤ b := by
          have h4 := Nat.div_add_mod b (a % b)
          have h5 : 1 ≤ b / (a % b) := (Nat.one_le_div_iff (by omega)).mpr (by omega)
          have h6 : a % b * 1 ≤ a % b * (b / (a % b)) := Nat.mul_le_mul_left _ h5
          omega
        have := est_le k (a % b) (b % (a % b)) (by rw [Nat.pow_succ] at h; omega)
        omega
def eu (a b : Nat) : Nat → Nat × Nat
  | 0 => (a, b)
  | i + 1 => ((eu a b i).2, (eu a b i).1 % (eu a b i).2)
theorem eu_est {a b : Nat} : ∀ {i : Nat}, i ≤ est a b → est (eu a b i).1 (eu a b i).2 = est a b - i
  | 0, _ => rfl
  | i + 1, h => by
    have ih := eu_est (a := a) (b := b) (i := i) (by omega)
    have h0 : (eu a b i).2 ≠ 0 := fun z => by
      rw [z, est_0] at ih
      omega
    rw [est_s h0] at ih
    show est (eu a b i).2 ((eu a b i).1 % (eu a b i).2) = _
    omega
theorem eu_nz {a b i : Nat} (h : i < est a b) : (eu a b i).2 ≠ 0 := fun z => by
  have := eu_est (a := a) (b := b) (i := i) (by omega)
  rw [z, est_0] at this
  omega
theorem eu_end (a b : Nat) : (eu a b (est a b)).2 = 0 := est_z (by
  have := eu_est (a := a) (b := b) (i := est a b) (Nat.le_refl _)
  rw [this, Nat.sub_self])
theorem eu_gcd (a b : Nat) : ∀ i, Nat.gcd (eu a b i).2 (eu a b i).1 = Nat.gcd b a
  | 0 => rfl
  | i + 1 => by
    show Nat.gcd ((eu a b i).1 % (eu a b i).2) (eu a b i).2 = _
    rw [← Nat.gcd_rec, eu_gcd a b i]
theorem eu_fin (a b : Nat) : (eu a b (est a b)).1 = Nat.gcd a b := by
  have := eu_gcd a b (est a b)
  rw [eu_end, Nat.gcd_zero_left, Nat.gcd_comm] at this
  exact this
theorem eu_le {a b M : Nat} (ha : a ≤ M) (hb : b ≤ M) : ∀ i, (eu a b i).1 ≤ M ∧ (eu a b i).2 ≤ M
  | 0 => ⟨ha, hb⟩
  | i + 1 => by
    have ih := eu_le ha hb i
    refine ⟨ih.2, ?_⟩
    show (eu a b i).1 % (eu a b i).2 ≤ M
    exact Nat.le_trans (Nat.mod_le _ _) ih.1
section M4
variable {X : List Int32} {S : ST} {n : Nat} {sz : Nat → Nat} {fn : Nat} {a o N : Nat} {f g h : Nat → Bool} {Fn : Nat → Nat → Bool} {wt : Nat → Int} {ro : Nat → Bool}
theorem wq_cM {n : Nat} {sz : Nat → Nat} {wt wt' : Nat → Int} {ro : Nat → Bool} (r : Nat) (hw : wf n sz) : ∀ {v : Nat}, v ≤ n → (∀ i, i < n * 6 → wt i = wt' i) → wq sz wt ro v r = wq sz wt' ro v r
  | 0, _, _ => rfl
  | v + 1, hv, h => by
    show wq sz wt ro v r * fac wt ro v (val sz r v) = wq sz wt' ro v r * fac wt' ro v (val sz r v)
    have h1 := hw.val (v := v) (by omega) r
    have h2 := hw.2.1 v (by omega)
    rw [wq_cM r hw (by omega) h]
    unfold fac
    rw [h (v * 6 + val sz r v) (by omega)]
theorem wq_bM (hv : wf n sz) (hw : wM S n wt ro) (r : Nat) : 0 ≤ wq sz wt ro n r ∧ wq sz wt ro n r ≤ 590490000000000 := by
  rw [wq_cM (wt' := fun i => if i < n * 6 then wt i else 1) r hv (Nat.le_refl n) (fun i hi => (if_pos hi).symm)]
  refine wq_b hv (fun i hi => ?_) r
  by_cases c : i < n * 6
  · rw [if_pos c]
    exact (hw i c).2.2
  · rw [if_neg c]
    omega
theorem m_best {x : Int} (hv : vM S n sz) (hfn : SI S 179 9 = (fn : Nat)) (h40 : fn ≤ 40) (hF : ∀ i, i < fn → rowS S 185 (16 * i) (Fn i)) (hw : wM S n wt ro) (hx : rg x) : sM X 2 221 [.ref 179, .int (iI x)] S (sV (some (.long (lI (if ¬ (0 ≤ x ∧ x < fn) then -101 else (bsM sz n (Fn x.toNat) (wq sz wt ro n) (pr sz n)).2)))) (if (0 ≤ x ∧ x < fn) ∧ (bsM sz n (Fn x.toNat) (wq sz wt ro n) (pr sz n)).1 ≠ -1 then mTl S sz (bsM sz n (Fn x.toNat) (wq sz wt ro n) (pr sz n)).1.toNat n n else S)) := by
  have hn := hv.1.1
  have hT0 := hv.1.2.2
  have x1 := hx.1
  have x2 := hx.2
  have hwq : ∀ r, 0 ≤ wq sz wt ro n r ∧ wq sz wt ro n r ≤ 590490000000000 := wq_bM hv.1 hw
  refine sIni (ls := [some (.ref 179), some (.int (iI x)), none, none, none, none, none, none]) rfl ?_
  refine sL (pc' := 1) (i := .aload_n 0) rfl rfl ?_
  refine sL (pc' := 2) (i := .iload_n 1) rfl rfl ?_
  refine sCv (p := 5) (as := [_]) rfl rfl rfl rfl (by decide) (Nat.le_of_ble_eq_true rfl) rfl (Nat.le_of_ble_eq_true rfl) (sk_179 _) rfl (by omega) (m_isFunction hx hfn h40) ?_
  refine sBn (p := 8) rfl rfl (fun c1 => ?_) (fun c1 => ?_)
  · have c1 := c1
    have c1 := of_decide_eq_true c1
    obtain ⟨f0, rfl⟩ : ∃ f0 : Nat, x = (f0 : Int) := ⟨x.toNat, by omega⟩
    have hf0 : f0 < fn := by omega
    have ef : Fn ((f0 : Nat) : Int).toNat = Fn f0 := rfl
    refine sKi (p := 13) rfl rfl ?_
    refine sL (pc' := 14) (i := .istore_n 2) (ls' := [some (.ref 179), some (.int (iI ((f0 : Nat) : Int))), some (.int (iI (-1))), none, none, none, none, none]) rfl rfl ?_
    refine sKj0 (p := 15) rfl rfl rfl ?_
    refine sL (pc' := 16) (i := .lstore_n 3) (ls' := [some (.ref 179), some (.int (iI ((f0 : Nat) : Int))), some (.int (iI (-1))), some (.long (lI 0)), none, none, none, none]) rfl rfl ?_
    refine sKi (p := 17) rfl rfl ?_
    refine sL (pc' := 19) (i := .istore 5) (ls' := [some (.ref 179), some (.int (iI ((f0 : Nat) : Int))), some (.int (iI (-1))), some (.long (lI 0)), none, some (.int (iI 0)), none, none]) rfl rfl ?_
    refine sIt (A := fun i => [some (.ref 179), some (.int (iI ((f0 : Nat) : Int))), some (.int (iI ((bsM sz n (Fn f0) (wq sz wt ro n) i).1))), some (.long (lI (bsM sz n (Fn f0) (wq sz wt ro n) i).2)), none, some (.int (iI ((i : Nat) : Int))), none, none]) (B := fun _ => S) (fun _ => True) (pr sz n) True.intro (fun i hi19 hI19 ih19 => ?_) (fun hI19 => ?_)
    · have hi19 := hi19
      have hbs := bsM_b (sz := sz) (n := n) (f := Fn f0) hwq i
      have hq1 := hwq i
      refine sL (pc' := 21) (i := .iload 5) rfl rfl ?_
      refine sL (pc' := 22) (i := .aload_n 0) rfl rfl ?_
      refine sGi (p := 25) rfl rfl (sk_179 _) rfl rfl rfl hv.2.2.1 ?_
      refine sIc_ge (p := 28) rfl rfl ⟨by omega, by omega⟩ ⟨by omega, by omega⟩ (fun c2 => ?_) (fun c2 => ?_)
      · exfalso; omega
      · have c2 := c2
        refine sL (pc' := 29) (i := .aload_n 0) rfl rfl ?_
        refine sGc (p := 32) rfl rfl (sk_179 _) rfl rfl rfl ?_
        refine sKb (p := 34) rfl rfl ?_
        refine sL (pc' := 35) (i := .iload_n 1) rfl rfl ?_
        refine sMu (p := 36) rfl rfl ?_
        refine sL (pc' := 38) (i := .iload 5) rfl rfl ?_
        refine sCs (p := 41) (as := [_, _, _]) rfl rfl rfl rfl (by decide) (Nat.le_of_ble_eq_true rfl) rfl (Nat.le_of_ble_eq_true rfl) rfl (by omega) (c_get (o := 16 * f0) (r := i) (sk_185 _) ⟨by omega, by omega⟩ (hF f0 hf0) (by omega)) ?_
        refine sBe (p := 44) rfl rfl (fun c3 => ?_) (fun c3 => ?_)
        · have c3 := c3
          have hwi : (if Fn f0 i then wq sz wt ro n i else 0) = 0 := by rw [c3]; rfl
          refine sKj0 (p := 54) rfl rfl rfl ?_
          refine sL (pc' := 56) (i := .lstore 6) (ls' := [some (.ref 179), some (.int (iI ((f0 : Nat) : Int))), some (.int (iI ((bsM sz n (Fn f0) (wq sz wt ro n) i).1))), some (.long (lI (bsM sz n (Fn f0) (wq sz wt ro n) i).2)), none, some (.int (iI ((i : Nat) : Int))), some (.long (lI 0)), none]) rfl rfl ?_
          refine sL (pc' := 58) (i := .lload 6) rfl rfl ?_
          refine sL (pc' := 59) (i := .lload_n 3) rfl rfl ?_
          refine sLf_gt (p := 63) rfl rfl rfl ⟨by omega, by omega⟩ ⟨by omega, by omega⟩ (fun c4 => ?_) (fun c4 => ?_)
          · have c4 := c4
            have hu : bsM sz n (Fn f0) (wq sz wt ro n) (i + 1) = (((i : Nat) : Int), (if Fn f0 i then wq sz wt ro n i else 0)) := if_pos (Or.inl (by omega))
            refine sL (pc' := 89) (i := .iload 5) rfl rfl ?_
            refine sL (pc' := 90) (i := .istore_n 2) (ls' := [some (.ref 179), some (.int (iI ((f0 : Nat) : Int))), some (.int (iI ((i : Nat) : Int))), some (.long (lI (bsM sz n (Fn f0) (wq sz wt ro n) i).2)), none, some (.int (iI ((i : Nat) : Int))), some (.long (lI 0)), none]) rfl rfl ?_
            refine sL (pc' := 92) (i := .lload 6) rfl rfl ?_
            refine sL (pc' := 93) (i := .lstore_n 3) (ls' := [some (.ref 179), some (.int (iI ((f0 : Nat) : Int))), some (.int (iI ((i : Nat) : Int))), some (.long (lI 0)), none, some (.int (iI ((i : Nat) : Int))), some (.long (lI 0)), none]) rfl rfl ?_
            refine sInX (z := ((i : Nat) : Int)) (ls' := [some (.ref 179), some (.int (iI ((f0 : Nat) : Int))), some (.int (iI ((i : Nat) : Int))), some (.long (lI 0)), none, some (.int (iI (((i : Nat) : Int) + 1))), some (.long (lI 0)), none]) (p := 96) rfl rfl (Nat.le_of_ble_eq_true rfl) rfl rfl ?_
            refine sL (i := .goto (-77)) rfl rfl ?_
            refine sRo (ls := [some (.ref 179), some (.int (iI ((f0 : Nat) : Int))), some (.int (iI ((bsM sz n (Fn f0) (wq sz wt ro n) (i + 1)).1))), some (.long (lI (bsM sz n (Fn f0) (wq sz wt ro n) (i + 1)).2)), none, some (.int (iI ((i + 1 : Nat) : Int))), none, none]) (T := _) (And.intro rfl (And.intro rfl (And.intro (congrArg (fun z => some (Value.int z)) (congrArg iI (by rw [hu]))) (And.intro (congrArg (fun z => some (Value.long z)) (congrArg lI (by rw [hu]; omega))) (And.intro rfl (True.intro)))))) (rfl) (ih19 ?_)
            exact True.intro
          · have c4 := c4
            have h5 := c4
            refine sL (pc' := 65) (i := .lload 6) rfl rfl ?_
            refine sL (pc' := 66) (i := .lload_n 3) rfl rfl ?_
            refine sLf_ne (p := 70) rfl rfl rfl ⟨by omega, by omega⟩ ⟨by omega, by omega⟩ (fun c5 => ?_) (fun c5 => ?_)
            · have c5 := c5
              have hu : bsM sz n (Fn f0) (wq sz wt ro n) (i + 1) = bsM sz n (Fn f0) (wq sz wt ro n) i := if_neg (fun z => by rcases z with z | z; omega; have := z.1; omega)
              refine sInX (z := ((i : Nat) : Int)) (ls' := [some (.ref 179), some (.int (iI ((f0 : Nat) : Int))), some (.int (iI ((bsM sz n (Fn f0) (wq sz wt ro n) i).1))), some (.long (lI (bsM sz n (Fn f0) (wq sz wt ro n) i).2)), none, some (.int (iI (((i : Nat) : Int) + 1))), some (.long (lI 0)), none]) (p := 96) rfl rfl (Nat.le_of_ble_eq_true rfl) rfl rfl ?_
              refine sL (i := .goto (-77)) rfl rfl ?_
              refine sRo (ls := [some (.ref 179), some (.int (iI ((f0 : Nat) : Int))), some (.int (iI ((bsM sz n (Fn f0) (wq sz wt ro n) (i + 1)).1))), some (.long (lI (bsM sz n (Fn f0) (wq sz wt ro n) (i + 1)).2)), none, some (.int (iI ((i + 1 : Nat) : Int))), none, none]) (T := _) (And.intro rfl (And.intro rfl (And.intro (congrArg (fun z => some (Value.int z)) (congrArg iI (by rw [hu]))) (And.intro (congrArg (fun z => some (Value.long z)) (congrArg lI (by rw [hu]))) (And.intro rfl (True.intro)))))) (rfl) (ih19 ?_)
              exact True.intro
            · have c5 := c5
              refine sL (pc' := 72) (i := .lload 6) rfl rfl ?_
              refine sKj0 (p := 73) rfl rfl rfl ?_
              refine sLf_le (p := 77) rfl rfl rfl ⟨by omega, by omega⟩ ⟨by omega, by omega⟩ (fun c6 => ?_) (fun c6 => ?_)
              · have c6 := c6
                have hu : bsM sz n (Fn f0) (wq sz wt ro n) (i + 1) = bsM sz n (Fn f0) (wq sz wt ro n) i := if_neg (fun z => by rcases z with z | z; omega; have := z.2.1; omega)
                refine sInX (z := ((i : Nat) : Int)) (ls' := [some (.ref 179), some (.int (iI ((f0 : Nat) : Int))), some (.int (iI ((bsM sz n (Fn f0) (wq sz wt ro n) i).1))), some (.long (lI (bsM sz n (Fn f0) (wq sz wt ro n) i).2)), none, some (.int (iI (((i : Nat) : Int) + 1))), some (.long (lI 0)), none]) (p := 96) rfl rfl (Nat.le_of_ble_eq_true rfl) rfl rfl ?_
                refine sL (i := .goto (-77)) rfl rfl ?_
                refine sRo (ls := [some (.ref 179), some (.int (iI ((f0 : Nat) : Int))), some (.int (iI ((bsM sz n (Fn f0) (wq sz wt ro n) (i + 1)).1))), some (.long (lI (bsM sz n (Fn f0) (wq sz wt ro n) (i + 1)).2)), none, some (.int (iI ((i + 1 : Nat) : Int))), none, none]) (T := _) (And.intro rfl (And.intro rfl (And.intro (congrArg (fun z => some (Value.int z)) (congrArg iI (by rw [hu]))) (And.intro (congrArg (fun z => some (Value.long z)) (congrArg lI (by rw [hu]))) (And.intro rfl (True.intro)))))) (rfl) (ih19 ?_)
                exact True.intro
              · have c6 := c6
                refine sL (pc' := 78) (i := .aload_n 0) rfl rfl ?_
                refine sL (pc' := 80) (i := .iload 5) rfl rfl ?_
                refine sL (pc' := 81) (i := .iload_n 2) rfl rfl ?_
                rw [show (bsM sz n (Fn f0) (wq sz wt ro n) i).1 = (((bsM sz n (Fn f0) (wq sz wt ro n) i).1.toNat : Nat) : Int) from by omega]
                refine sCv (p := 84) (as := [_, _]) rfl rfl rfl rfl (by decide) (Nat.le_of_ble_eq_true rfl) rfl (Nat.le_of_ble_eq_true rfl) (sk_179 _) rfl (by omega) (m_isBefore hv (r := i) (s := (bsM sz n (Fn f0) (wq sz wt ro n) i).1.toNat) (by omega) (by omega)) ?_
                refine sBe (p := 87) rfl rfl (fun c7 => ?_) (fun c7 => ?_)
                · have c7 := c7
                  have c7 := of_decide_eq_false c7
                  have hu : bsM sz n (Fn f0) (wq sz wt ro n) (i + 1) = bsM sz n (Fn f0) (wq sz wt ro n) i := if_neg (fun z => by rcases z with z | z; omega; exact c7 z.2.2)
                  refine sInX (z := ((i : Nat) : Int)) (ls' := [some (.ref 179), some (.int (iI ((f0 : Nat) : Int))), some (.int (iI (((bsM sz n (Fn f0) (wq sz wt ro n) i).1.toNat : Nat) : Int))), some (.long (lI (bsM sz n (Fn f0) (wq sz wt ro n) i).2)), none, some (.int (iI (((i : Nat) : Int) + 1))), some (.long (lI 0)), none]) (p := 96) rfl rfl (Nat.le_of_ble_eq_true rfl) rfl rfl ?_
                  refine sL (i := .goto (-77)) rfl rfl ?_
                  refine sRo (ls := [some (.ref 179), some (.int (iI ((f0 : Nat) : Int))), some (.int (iI ((bsM sz n (Fn f0) (wq sz wt ro n) (i + 1)).1))), some (.long (lI (bsM sz n (Fn f0) (wq sz wt ro n) (i + 1)).2)), none, some (.int (iI ((i + 1 : Nat) : Int))), none, none]) (T := _) (And.intro rfl (And.intro rfl (And.intro (congrArg (fun z => some (Value.int z)) (congrArg iI (by rw [hu]; omega))) (And.intro (congrArg (fun z => some (Value.long z)) (congrArg lI (by rw [hu]))) (And.intro rfl (True.intro)))))) (rfl) (ih19 ?_)
                  exact True.intro
                · have c7 := c7
                  have c7 := of_decide_eq_true c7
                  have hu : bsM sz n (Fn f0) (wq sz wt ro n) (i + 1) = (((i : Nat) : Int), (if Fn f0 i then wq sz wt ro n i else 0)) := if_pos (Or.inr ⟨by omega, by omega, c7⟩)
                  refine sL (pc' := 89) (i := .iload 5) rfl rfl ?_
                  refine sL (pc' := 90) (i := .istore_n 2) (ls' := [some (.ref 179), some (.int (iI ((f0 : Nat) : Int))), some (.int (iI ((i : Nat) : Int))), some (.long (lI (bsM sz n (Fn f0) (wq sz wt ro n) i).2)), none, some (.int (iI ((i : Nat) : Int))), some (.long (lI 0)), none]) rfl rfl ?_
                  refine sL (pc' := 92) (i := .lload 6) rfl rfl ?_
                  refine sL (pc' := 93) (i := .lstore_n 3) (ls' := [some (.ref 179), some (.int (iI ((f0 : Nat) : Int))), some (.int (iI ((i : Nat) : Int))), some (.long (lI 0)), none, some (.int (iI ((i : Nat) : Int))), some (.long (lI 0)), none]) rfl rfl ?_
                  refine sInX (z := ((i : Nat) : Int)) (ls' := [some (.ref 179), some (.int (iI ((f0 : Nat) : Int))), some (.int (iI ((i : Nat) : Int))), some (.long (lI 0)), none, some (.int (iI (((i : Nat) : Int) + 1))), some (.long (lI 0)), none]) (p := 96) rfl rfl (Nat.le_of_ble_eq_true rfl) rfl rfl ?_
                  refine sL (i := .goto (-77)) rfl rfl ?_
                  refine sRo (ls := [some (.ref 179), some (.int (iI ((f0 : Nat) : Int))), some (.int (iI ((bsM sz n (Fn f0) (wq sz wt ro n) (i + 1)).1))), some (.long (lI (bsM sz n (Fn f0) (wq sz wt ro n) (i + 1)).2)), none, some (.int (iI ((i + 1 : Nat) : Int))), none, none]) (T := _) (And.intro rfl (And.intro rfl (And.intro (congrArg (fun z => some (Value.int z)) (congrArg iI (by rw [hu]))) (And.intro (congrArg (fun z => some (Value.long z)) (congrArg lI (by rw [hu]; omega))) (And.intro rfl (True.intro)))))) (rfl) (ih19 ?_)
                  exact True.intro
        · have c3 := c3
          have hwi : (if Fn f0 i then wq sz wt ro n i else 0) = wq sz wt ro n i := by rw [c3]; rfl
          refine sL (pc' := 45) (i := .aload_n 0) rfl rfl ?_
          refine sL (pc' := 47) (i := .iload 5) rfl rfl ?_
          refine sCv (p := 50) (as := [_]) rfl rfl rfl rfl (by decide) (Nat.le_of_ble_eq_true rfl) rfl (Nat.le_of_ble_eq_true rfl) (sk_179 _) rfl (by omega) (m_weightOf hv hw (by omega)) ?_
          refine sL (i := .goto 4) rfl rfl ?_
          refine sL (pc' := 56) (i := .lstore 6) (ls' := [some (.ref 179), some (.int (iI ((f0 : Nat) : Int))), some (.int (iI ((bsM sz n (Fn f0) (wq sz wt ro n) i).1))), some (.long (lI (bsM sz n (Fn f0) (wq sz wt ro n) i).2)), none, some (.int (iI ((i : Nat) : Int))), some (.long (lI (wq sz wt ro n i))), none]) rfl rfl ?_
          refine sL (pc' := 58) (i := .lload 6) rfl rfl ?_
          refine sL (pc' := 59) (i := .lload_n 3) rfl rfl ?_
          refine sLf_gt (p := 63) rfl rfl rfl ⟨by omega, by omega⟩ ⟨by omega, by omega⟩ (fun c8 => ?_) (fun c8 => ?_)
          · have c8 := c8
            have hu : bsM sz n (Fn f0) (wq sz wt ro n) (i + 1) = (((i : Nat) : Int), (if Fn f0 i then wq sz wt ro n i else 0)) := if_pos (Or.inl (by omega))
            refine sL (pc' := 89) (i := .iload 5) rfl rfl ?_
            refine sL (pc' := 90) (i := .istore_n 2) (ls' := [some (.ref 179), some (.int (iI ((f0 : Nat) : Int))), some (.int (iI ((i : Nat) : Int))), some (.long (lI (bsM sz n (Fn f0) (wq sz wt ro n) i).2)), none, some (.int (iI ((i : Nat) : Int))), some (.long (lI (wq sz wt ro n i))), none]) rfl rfl ?_
            refine sL (pc' := 92) (i := .lload 6) rfl rfl ?_
            refine sL (pc' := 93) (i := .lstore_n 3) (ls' := [some (.ref 179), some (.int (iI ((f0 : Nat) : Int))), some (.int (iI ((i : Nat) : Int))), some (.long (lI (wq sz wt ro n i))), none, some (.int (iI ((i : Nat) : Int))), some (.long (lI (wq sz wt ro n i))), none]) rfl rfl ?_
            refine sInX (z := ((i : Nat) : Int)) (ls' := [some (.ref 179), some (.int (iI ((f0 : Nat) : Int))), some (.int (iI ((i : Nat) : Int))), some (.long (lI (wq sz wt ro n i))), none, some (.int (iI (((i : Nat) : Int) + 1))), some (.long (lI (wq sz wt ro n i))), none]) (p := 96) rfl rfl (Nat.le_of_ble_eq_true rfl) rfl rfl ?_
            refine sL (i := .goto (-77)) rfl rfl ?_
            refine sRo (ls := [some (.ref 179), some (.int (iI ((f0 : Nat) : Int))), some (.int (iI ((bsM sz n (Fn f0) (wq sz wt ro n) (i + 1)).1))), some (.long (lI (bsM sz n (Fn f0) (wq sz wt ro n) (i + 1)).2)), none, some (.int (iI ((i + 1 : Nat) : Int))), none, none]) (T := _) (And.intro rfl (And.intro rfl (And.intro (congrArg (fun z => some (Value.int z)) (congrArg iI (by rw [hu]))) (And.intro (congrArg (fun z => some (Value.long z)) (congrArg lI (by rw [hu]; omega))) (And.intro rfl (True.intro)))))) (rfl) (ih19 ?_)
            exact True.intro
          · have c8 := c8
            have h5 := c8
            refine sL (pc' := 65) (i := .lload 6) rfl rfl ?_
            refine sL (pc' := 66) (i := .lload_n 3) rfl rfl ?_
            refine sLf_ne (p := 70) rfl rfl rfl ⟨by omega, by omega⟩ ⟨by omega, by omega⟩ (fun c9 => ?_) (fun c9 => ?_)
            · have c9 := c9
              have hu : bsM sz n (Fn f0) (wq sz wt ro n) (i + 1) = bsM sz n (Fn f0) (wq sz wt ro n) i := if_neg (fun z => by rcases z with z | z; omega; have := z.1; omega)
              refine sInX (z := ((i : Nat) : Int)) (ls' := [some (.ref 179), some (.int (iI ((f0 : Nat) : Int))), some (.int (iI ((bsM sz n (Fn f0) (wq sz wt ro n) i).1))), some (.long (lI (bsM sz n (Fn f0) (wq sz wt ro n) i).2)), none, some (.int (iI (((i : Nat) : Int) + 1))), some (.long (lI (wq sz wt ro n i))), none]) (p := 96) rfl rfl (Nat.le_of_ble_eq_true rfl) rfl rfl ?_
              refine sL (i := .goto (-77)) rfl rfl ?_
              refine sRo (ls := [some (.ref 179), some (.int (iI ((f0 : Nat) : Int))), some (.int (iI ((bsM sz n (Fn f0) (wq sz wt ro n) (i + 1)).1))), some (.long (lI (bsM sz n (Fn f0) (wq sz wt ro n) (i + 1)).2)), none, some (.int (iI ((i + 1 : Nat) : Int))), none, none]) (T := _) (And.intro rfl (And.intro rfl (And.intro (congrArg (fun z => some (Value.int z)) (congrArg iI (by rw [hu]))) (And.intro (congrArg (fun z => some (Value.long z)) (congrArg lI (by rw [hu]))) (And.intro rfl (True.intro)))))) (rfl) (ih19 ?_)
              exact True.intro
            · have c9 := c9
              refine sL (pc' := 72) (i := .lload 6) rfl rfl ?_
              refine sKj0 (p := 73) rfl rfl rfl ?_
              refine sLf_le (p := 77) rfl rfl rfl ⟨by omega, by omega⟩ ⟨by omega, by omega⟩ (fun c10 => ?_) (fun c10 => ?_)
              · have c10 := c10
                have hu : bsM sz n (Fn f0) (wq sz wt ro n) (i + 1) = bsM sz n (Fn f0) (wq sz wt ro n) i := if_neg (fun z => by rcases z with z | z; omega; have := z.2.1; omega)
                refine sInX (z := ((i : Nat) : Int)) (ls' := [some (.ref 179), some (.int (iI ((f0 : Nat) : Int))), some (.int (iI ((bsM sz n (Fn f0) (wq sz wt ro n) i).1))), some (.long (lI (bsM sz n (Fn f0) (wq sz wt ro n) i).2)), none, some (.int (iI (((i : Nat) : Int) + 1))), some (.long (lI (wq sz wt ro n i))), none]) (p := 96) rfl rfl (Nat.le_of_ble_eq_true rfl) rfl rfl ?_
                refine sL (i := .goto (-77)) rfl rfl ?_
                refine sRo (ls := [some (.ref 179), some (.int (iI ((f0 : Nat) : Int))), some (.int (iI ((bsM sz n (Fn f0) (wq sz wt ro n) (i + 1)).1))), some (.long (lI (bsM sz n (Fn f0) (wq sz wt ro n) (i + 1)).2)), none, some (.int (iI ((i + 1 : Nat) : Int))), none, none]) (T := _) (And.intro rfl (And.intro rfl (And.intro (congrArg (fun z => some (Value.int z)) (congrArg iI (by rw [hu]))) (And.intro (congrArg (fun z => some (Value.long z)) (congrArg lI (by rw [hu]))) (And.intro rfl (True.intro)))))) (rfl) (ih19 ?_)
                exact True.intro
              · have c10 := c10
                refine sL (pc' := 78) (i := .aload_n 0) rfl rfl ?_
                refine sL (pc' := 80) (i := .iload 5) rfl rfl ?_
                refine sL (pc' := 81) (i := .iload_n 2) rfl rfl ?_
                rw [show (bsM sz n (Fn f0) (wq sz wt ro n) i).1 = (((bsM sz n (Fn f0) (wq sz wt ro n) i).1.toNat : Nat) : Int) from by omega]
                refine sCv (p := 84) (as := [_, _]) rfl rfl rfl rfl (by decide) (Nat.le_of_ble_eq_true rfl) rfl (Nat.le_of_ble_eq_true rfl) (sk_179 _) rfl (by omega) (m_isBefore hv (r := i) (s := (bsM sz n (Fn f0) (wq sz wt ro n) i).1.toNat) (by omega) (by omega)) ?_
                refine sBe (p := 87) rfl rfl (fun c11 => ?_) (fun c11 => ?_)
                · have c11 := c11
                  have c11 := of_decide_eq_false c11
                  have hu : bsM sz n (Fn f0) (wq sz wt ro n) (i + 1) = bsM sz n (Fn f0) (wq sz wt ro n) i := if_neg (fun z => by rcases z with z | z; omega; exact c11 z.2.2)
                  refine sInX (z := ((i : Nat) : Int)) (ls' := [some (.ref 179), some (.int (iI ((f0 : Nat) : Int))), some (.int (iI (((bsM sz n (Fn f0) (wq sz wt ro n) i).1.toNat : Nat) : Int))), some (.long (lI (bsM sz n (Fn f0) (wq sz wt ro n) i).2)), none, some (.int (iI (((i : Nat) : Int) + 1))), some (.long (lI (wq sz wt ro n i))), none]) (p := 96) rfl rfl (Nat.le_of_ble_eq_true rfl) rfl rfl ?_
                  refine sL (i := .goto (-77)) rfl rfl ?_
                  refine sRo (ls := [some (.ref 179), some (.int (iI ((f0 : Nat) : Int))), some (.int (iI ((bsM sz n (Fn f0) (wq sz wt ro n) (i + 1)).1))), some (.long (lI (bsM sz n (Fn f0) (wq sz wt ro n) (i + 1)).2)), none, some (.int (iI ((i + 1 : Nat) : Int))), none, none]) (T := _) (And.intro rfl (And.intro rfl (And.intro (congrArg (fun z => some (Value.int z)) (congrArg iI (by rw [hu]; omega))) (And.intro (congrArg (fun z => some (Value.long z)) (congrArg lI (by rw [hu]))) (And.intro rfl (True.intro)))))) (rfl) (ih19 ?_)
                  exact True.intro
                · have c11 := c11
                  have c11 := of_decide_eq_true c11
                  have hu : bsM sz n (Fn f0) (wq sz wt ro n) (i + 1) = (((i : Nat) : Int), (if Fn f0 i then wq sz wt ro n i else 0)) := if_pos (Or.inr ⟨by omega, by omega, c11⟩)
                  refine sL (pc' := 89) (i := .iload 5) rfl rfl ?_
                  refine sL (pc' := 90) (i := .istore_n 2) (ls' := [some (.ref 179), some (.int (iI ((f0 : Nat) : Int))), some (.int (iI ((i : Nat) : Int))), some (.long (lI (bsM sz n (Fn f0) (wq sz wt ro n) i).2)), none, some (.int (iI ((i : Nat) : Int))), some (.long (lI (wq sz wt ro n i))), none]) rfl rfl ?_
                  refine sL (pc' := 92) (i := .lload 6) rfl rfl ?_
                  refine sL (pc' := 93) (i := .lstore_n 3) (ls' := [some (.ref 179), some (.int (iI ((f0 : Nat) : Int))), some (.int (iI ((i : Nat) : Int))), some (.long (lI (wq sz wt ro n i))), none, some (.int (iI ((i : Nat) : Int))), some (.long (lI (wq sz wt ro n i))), none]) rfl rfl ?_
                  refine sInX (z := ((i : Nat) : Int)) (ls' := [some (.ref 179), some (.int (iI ((f0 : Nat) : Int))), some (.int (iI ((i : Nat) : Int))), some (.long (lI (wq sz wt ro n i))), none, some (.int (iI (((i : Nat) : Int) + 1))), some (.long (lI (wq sz wt ro n i))), none]) (p := 96) rfl rfl (Nat.le_of_ble_eq_true rfl) rfl rfl ?_
                  refine sL (i := .goto (-77)) rfl rfl ?_
                  refine sRo (ls := [some (.ref 179), some (.int (iI ((f0 : Nat) : Int))), some (.int (iI ((bsM sz n (Fn f0) (wq sz wt ro n) (i + 1)).1))), some (.long (lI (bsM sz n (Fn f0) (wq sz wt ro n) (i + 1)).2)), none, some (.int (iI ((i + 1 : Nat) : Int))), none, none]) (T := _) (And.intro rfl (And.intro rfl (And.intro (congrArg (fun z => some (Value.int z)) (congrArg iI (by rw [hu]))) (And.intro (congrArg (fun z => some (Value.long z)) (congrArg lI (by rw [hu]; omega))) (And.intro rfl (True.intro)))))) (rfl) (ih19 ?_)
                  exact True.intro
    · have hI19 := hI19
      have hbs := bsM_b (sz := sz) (n := n) (f := Fn f0) hwq (pr sz n)
      refine sL (pc' := 21) (i := .iload 5) rfl rfl ?_
      refine sL (pc' := 22) (i := .aload_n 0) rfl rfl ?_
      refine sGi (p := 25) rfl rfl (sk_179 _) rfl rfl rfl hv.2.2.1 ?_
      refine sIc_ge (p := 28) rfl rfl ⟨by omega, by omega⟩ ⟨by omega, by omega⟩ (fun c12 => ?_) (fun c12 => ?_)
      · have c12 := c12
        refine sL (pc' := 100) (i := .iload_n 2) rfl rfl ?_
        refine sKi (p := 101) rfl rfl ?_
        refine sIc_eq (p := 104) rfl rfl ⟨by omega, by omega⟩ ⟨by omega, by omega⟩ (fun c13 => ?_) (fun c13 => ?_)
        · have c13 := c13
          refine sL (pc' := 110) (i := .lload_n 3) rfl rfl ?_
          refine sEn (i := .lreturn) rfl (rfl) ?_
          refine ⟨by rw [if_neg (by omega), ef], ?_⟩
          rw [ef, if_neg (fun z => by have := z.2; omega)]
        · have c13 := c13
          refine sL (pc' := 105) (i := .aload_n 0) rfl rfl ?_
          refine sL (pc' := 106) (i := .iload_n 2) rfl rfl ?_
          rw [show (bsM sz n (Fn f0) (wq sz wt ro n) (pr sz n)).1 = (((bsM sz n (Fn f0) (wq sz wt ro n) (pr sz n)).1.toNat : Nat) : Int) from by omega]
          refine sCv (p := 109) (as := [_]) rfl rfl rfl rfl (by decide) (Nat.le_of_ble_eq_true rfl) rfl (Nat.le_of_ble_eq_true rfl) (sk_179 _) rfl (by omega) (m_tell hv (r := (bsM sz n (Fn f0) (wq sz wt ro n) (pr sz n)).1.toNat) (by omega)) ?_
          refine sL (pc' := 110) (i := .lload_n 3) rfl rfl ?_
          refine sEn (i := .lreturn) rfl (rfl) ?_
          refine ⟨by rw [if_neg (by omega), ef], ?_⟩
          rw [ef, if_pos ⟨by omega, by omega⟩]
      · exfalso; omega
  · have c1 := c1
    have c1 := of_decide_eq_false c1
    refine sL (pc' := 11) (i := .ldc2_w 285) rfl rfl ?_
    refine sEn (i := .lreturn) rfl (rfl) ?_
    exact ⟨by rw [if_pos (by omega)]; rfl, by rw [if_neg (fun z => by have := z.1; omega)]⟩
theorem m_wobNN {u v : Nat} (hv : vM S n sz) (hfn : SI S 179 9 = (fn : Nat)) (h40 : fn ≤ 40) (hF : ∀ i, i < fn → rowS S 185 (16 * i) (Fn i)) (hw : wM S n wt ro) : sM X 2 223 [.ref 179, .int (iI (-1)), .int (iI (-1))] S (sV (some (.long (lI (swt (fun r => true) (wq sz wt ro n) (pr sz n))))) S) := by
  have hn := hv.1.1
  have hT0 := hv.1.2.2
  have hwq : ∀ r, 0 ≤ wq sz wt ro n r ∧ wq sz wt ro n r ≤ 590490000000000 := wq_bM hv.1 hw
  refine sIni (ls := [some (.ref 179), some (.int (iI (-1))), some (.int (iI (-1))), none, none, none, none]) rfl ?_
  refine sKj0 (p := 1) rfl rfl rfl ?_
  refine sL (pc' := 2) (i := .lstore_n 3) (ls' := [some (.ref 179), some (.int (iI (-1))), some (.int (iI (-1))), some (.long (lI 0)), none, none, none]) rfl rfl ?_
  refine sKi (p := 3) rfl rfl ?_
  refine sL (pc' := 5) (i := .istore 5) (ls' := [some (.ref 179), some (.int (iI (-1))), some (.int (iI (-1))), some (.long (lI 0)), none, some (.int (iI 0)), none]) rfl rfl ?_
  refine sIt (A := fun i => [some (.ref 179), some (.int (iI (-1))), some (.int (iI (-1))), some (.long (lI (swt (fun r => true) (wq sz wt ro n) i))), none, some (.int (iI ((i : Nat) : Int))), none]) (B := fun _ => S) (fun _ => True) (pr sz n) True.intro (fun i hi5 hI5 ih5 => ?_) (fun hI5 => ?_)
  · have hi5 := hi5
    refine sL (pc' := 7) (i := .iload 5) rfl rfl ?_
    refine sL (pc' := 8) (i := .aload_n 0) rfl rfl ?_
    refine sGi (p := 11) rfl rfl (sk_179 _) rfl rfl rfl hv.2.2.1 ?_
    refine sIc_ge (p := 14) rfl rfl ⟨by omega, by omega⟩ ⟨by omega, by omega⟩ (fun c1 => ?_) (fun c1 => ?_)
    · exfalso; omega
    · have c1 := c1
      refine sL (pc' := 15) (i := .iload_n 1) rfl rfl ?_
      refine sKi (p := 16) rfl rfl ?_
      refine sIc_eq (p := 19) rfl rfl ⟨by omega, by omega⟩ ⟨by omega, by omega⟩ (fun c2 => ?_) (fun c2 => ?_)
      · have c2 := c2
        refine sL (pc' := 36) (i := .iload_n 2) rfl rfl ?_
        refine sKi (p := 37) rfl rfl ?_
        refine sIc_eq (p := 40) rfl rfl ⟨by omega, by omega⟩ ⟨by omega, by omega⟩ (fun c3 => ?_) (fun c3 => ?_)
        · have c3 := c3
          refine sKi (p := 57) rfl rfl ?_
          refine sL (i := .goto 4) rfl rfl ?_
          refine sL (pc' := 63) (i := .istore 6) (ls' := [some (.ref 179), some (.int (iI (-1))), some (.int (iI (-1))), some (.long (lI (swt (fun r => true) (wq sz wt ro n) i))), none, some (.int (iI ((i : Nat) : Int))), some (.int (iI 1))]) rfl rfl ?_
          refine sL (pc' := 64) (i := .lload_n 3) rfl rfl ?_
          refine sL (pc' := 66) (i := .iload 6) rfl rfl ?_
          refine sIf_eq (p := 69) rfl rfl ⟨by omega, by omega⟩ (fun c4 => ?_) (fun c4 => ?_)
          · exact absurd c4 (by decide)
          · have c4 := c4
            have hp : (true) = true := by rfl
            refine sL (pc' := 70) (i := .aload_n 0) rfl rfl ?_
            refine sL (pc' := 72) (i := .iload 5) rfl rfl ?_
            refine sCv (p := 75) (as := [_]) rfl rfl rfl rfl (by decide) (Nat.le_of_ble_eq_true rfl) rfl (Nat.le_of_ble_eq_true rfl) (sk_179 _) rfl (by omega) (m_weightOf hv hw (by omega)) ?_
            refine sL (i := .goto 4) rfl rfl ?_
            refine sLad (p := 80) rfl rfl ?_
            refine sL (pc' := 81) (i := .lstore_n 3) (ls' := [some (.ref 179), some (.int (iI (-1))), some (.int (iI (-1))), some (.long (lI (((swt (fun r => true) (wq sz wt ro n) i)) + ((wq sz wt ro n i))))), none, some (.int (iI ((i : Nat) : Int))), some (.int (iI 1))]) rfl rfl ?_
            refine sInX (z := ((i : Nat) : Int)) (ls' := [some (.ref 179), some (.int (iI (-1))), some (.int (iI (-1))), some (.long (lI (((swt (fun r => true) (wq sz wt ro n) i)) + ((wq sz wt ro n i))))), none, some (.int (iI (((i : Nat) : Int) + 1))), some (.int (iI 1))]) (p := 84) rfl rfl (Nat.le_of_ble_eq_true rfl) rfl rfl ?_
            refine sL (i := .goto (-79)) rfl rfl ?_
            refine sRo (ls := [some (.ref 179), some (.int (iI (-1))), some (.int (iI (-1))), some (.long (lI (swt (fun r => true) (wq sz wt ro n) (i + 1)))), none, some (.int (iI ((i + 1 : Nat) : Int))), none]) (T := _) (And.intro rfl (And.intro rfl (And.intro rfl (And.intro (congrArg (fun z => some (Value.long z)) (congrArg lI (by show _ = swt (fun r => true) (wq sz wt ro n) i + (if (true) then _ else 0); rw [hp]; rfl))) (And.intro rfl (True.intro)))))) (rfl) (ih5 ?_)
            exact True.intro
        · exact absurd c3 (by decide)
      · exact absurd c2 (by decide)
  · have hI5 := hI5
    refine sL (pc' := 7) (i := .iload 5) rfl rfl ?_
    refine sL (pc' := 8) (i := .aload_n 0) rfl rfl ?_
    refine sGi (p := 11) rfl rfl (sk_179 _) rfl rfl rfl hv.2.2.1 ?_
    refine sIc_ge (p := 14) rfl rfl ⟨by omega, by omega⟩ ⟨by omega, by omega⟩ (fun c5 => ?_) (fun c5 => ?_)
    · have c5 := c5
      refine sL (pc' := 88) (i := .lload_n 3) rfl rfl ?_
      refine sEn (i := .lreturn) rfl (rfl) ?_
      exact ⟨rfl, rfl⟩
    · exfalso; omega
theorem m_wobNF {u v : Nat} (hv : vM S n sz) (hfn : SI S 179 9 = (fn : Nat)) (h40 : fn ≤ 40) (hF : ∀ i, i < fn → rowS S 185 (16 * i) (Fn i)) (hw : wM S n wt ro) (hvf : v < fn) : sM X 2 223 [.ref 179, .int (iI (-1)), .int (iI (v : Nat))] S (sV (some (.long (lI (swt (fun r => Fn v r) (wq sz wt ro n) (pr sz n))))) S) := by
  have hn := hv.1.1
  have hT0 := hv.1.2.2
  have hwq : ∀ r, 0 ≤ wq sz wt ro n r ∧ wq sz wt ro n r ≤ 590490000000000 := wq_bM hv.1 hw
  refine sIni (ls := [some (.ref 179), some (.int (iI (-1))), some (.int (iI ((v : Nat) : Int))), none, none, none, none]) rfl ?_
  refine sKj0 (p := 1) rfl rfl rfl ?_
  refine sL (pc' := 2) (i := .lstore_n 3) (ls' := [some (.ref 179), some (.int (iI (-1))), some (.int (iI ((v : Nat) : Int))), some (.long (lI 0)), none, none, none]) rfl rfl ?_
  refine sKi (p := 3) rfl rfl ?_
  refine sL (pc' := 5) (i := .istore 5) (ls' := [some (.ref 179), some (.int (iI (-1))), some (.int (iI ((v : Nat) : Int))), some (.long (lI 0)), none, some (.int (iI 0)), none]) rfl rfl ?_
  refine sIt (A := fun i => [some (.ref 179), some (.int (iI (-1))), some (.int (iI ((v : Nat) : Int))), some (.long (lI (swt (fun r => Fn v r) (wq sz wt ro n) i))), none, some (.int (iI ((i : Nat) : Int))), none]) (B := fun _ => S) (fun _ => True) (pr sz n) True.intro (fun i hi5 hI5 ih5 => ?_) (fun hI5 => ?_)
  · have hi5 := hi5
    refine sL (pc' := 7) (i := .iload 5) rfl rfl ?_
    refine sL (pc' := 8) (i := .aload_n 0) rfl rfl ?_
    refine sGi (p := 11) rfl rfl (sk_179 _) rfl rfl rfl hv.2.2.1 ?_
    refine sIc_ge (p := 14) rfl rfl ⟨by omega, by omega⟩ ⟨by omega, by omega⟩ (fun c1 => ?_) (fun c1 => ?_)
    · exfalso; omega
    · have c1 := c1
      refine sL (pc' := 15) (i := .iload_n 1) rfl rfl ?_
      refine sKi (p := 16) rfl rfl ?_
      refine sIc_eq (p := 19) rfl rfl ⟨by omega, by omega⟩ ⟨by omega, by omega⟩ (fun c2 => ?_) (fun c2 => ?_)
      · have c2 := c2
        refine sL (pc' := 36) (i := .iload_n 2) rfl rfl ?_
        refine sKi (p := 37) rfl rfl ?_
        refine sIc_eq (p := 40) rfl rfl ⟨by omega, by omega⟩ ⟨by omega, by omega⟩ (fun c3 => ?_) (fun c3 => ?_)
        · exfalso; omega
        · have c3 := c3
          refine sL (pc' := 41) (i := .aload_n 0) rfl rfl ?_
          refine sGc (p := 44) rfl rfl (sk_179 _) rfl rfl rfl ?_
          refine sKb (p := 46) rfl rfl ?_
          refine sL (pc' := 47) (i := .iload_n 2) rfl rfl ?_
          refine sMu (p := 48) rfl rfl ?_
          refine sL (pc' := 50) (i := .iload 5) rfl rfl ?_
          refine sCs (p := 53) (as := [_, _, _]) rfl rfl rfl rfl (by decide) (Nat.le_of_ble_eq_true rfl) rfl (Nat.le_of_ble_eq_true rfl) rfl (by omega) (c_get (o := 16 * v) (r := i) (sk_185 _) ⟨by omega, by omega⟩ (hF v hvf) (by omega)) ?_
          refine sBe (p := 56) rfl rfl (fun c4 => ?_) (fun c4 => ?_)
          · have c4 := c4
            have hp : (Fn v i) = false := by rw [c4]; try rfl
            refine sKi (p := 61) rfl rfl ?_
            refine sL (pc' := 63) (i := .istore 6) (ls' := [some (.ref 179), some (.int (iI (-1))), some (.int (iI ((v : Nat) : Int))), some (.long (lI (swt (fun r => Fn v r) (wq sz wt ro n) i))), none, some (.int (iI ((i : Nat) : Int))), some (.int (iI 0))]) rfl rfl ?_
            refine sL (pc' := 64) (i := .lload_n 3) rfl rfl ?_
            refine sL (pc' := 66) (i := .iload 6) rfl rfl ?_
            refine sIf_eq (p := 69) rfl rfl ⟨by omega, by omega⟩ (fun c5 => ?_) (fun c5 => ?_)
            · have c5 := c5
              refine sKj0 (p := 79) rfl rfl rfl ?_
              refine sLad (p := 80) rfl rfl ?_
              refine sL (pc' := 81) (i := .lstore_n 3) (ls' := [some (.ref 179), some (.int (iI (-1))), some (.int (iI ((v : Nat) : Int))), some (.long (lI (((swt (fun r => Fn v r) (wq sz wt ro n) i)) + 0))), none, some (.int (iI ((i : Nat) : Int))), some (.int (iI 0))]) rfl rfl ?_
              refine sInX (z := ((i : Nat) : Int)) (ls' := [some (.ref 179), some (.int (iI (-1))), some (.int (iI ((v : Nat) : Int))), some (.long (lI (((swt (fun r => Fn v r) (wq sz wt ro n) i)) + 0))), none, some (.int (iI (((i : Nat) : Int) + 1))), some (.int (iI 0))]) (p := 84) rfl rfl (Nat.le_of_ble_eq_true rfl) rfl rfl ?_
              refine sL (i := .goto (-79)) rfl rfl ?_
              refine sRo (ls := [some (.ref 179), some (.int (iI (-1))), some (.int (iI ((v : Nat) : Int))), some (.long (lI (swt (fun r => Fn v r) (wq sz wt ro n) (i + 1)))), none, some (.int (iI ((i + 1 : Nat) : Int))), none]) (T := _) (And.intro rfl (And.intro rfl (And.intro rfl (And.intro (congrArg (fun z => some (Value.long z)) (congrArg lI (by show _ = swt (fun r => Fn v r) (wq sz wt ro n) i + (if (Fn v i) then _ else 0); rw [hp]; rfl))) (And.intro rfl (True.intro)))))) (rfl) (ih5 ?_)
              exact True.intro
            · exact absurd c5 (by decide)
          · have c4 := c4
            have h2 := c4
            refine sKi (p := 57) rfl rfl ?_
            refine sL (i := .goto 4) rfl rfl ?_
            refine sL (pc' := 63) (i := .istore 6) (ls' := [some (.ref 179), some (.int (iI (-1))), some (.int (iI ((v : Nat) : Int))), some (.long (lI (swt (fun r => Fn v r) (wq sz wt ro n) i))), none, some (.int (iI ((i : Nat) : Int))), some (.int (iI 1))]) rfl rfl ?_
            refine sL (pc' := 64) (i := .lload_n 3) rfl rfl ?_
            refine sL (pc' := 66) (i := .iload 6) rfl rfl ?_
            refine sIf_eq (p := 69) rfl rfl ⟨by omega, by omega⟩ (fun c6 => ?_) (fun c6 => ?_)
            · exact absurd c6 (by decide)
            · have c6 := c6
              have hp : (Fn v i) = true := by rw [h2]; try rfl
              refine sL (pc' := 70) (i := .aload_n 0) rfl rfl ?_
              refine sL (pc' := 72) (i := .iload 5) rfl rfl ?_
              refine sCv (p := 75) (as := [_]) rfl rfl rfl rfl (by decide) (Nat.le_of_ble_eq_true rfl) rfl (Nat.le_of_ble_eq_true rfl) (sk_179 _) rfl (by omega) (m_weightOf hv hw (by omega)) ?_
              refine sL (i := .goto 4) rfl rfl ?_
              refine sLad (p := 80) rfl rfl ?_
              refine sL (pc' := 81) (i := .lstore_n 3) (ls' := [some (.ref 179), some (.int (iI (-1))), some (.int (iI ((v : Nat) : Int))), some (.long (lI (((swt (fun r => Fn v r) (wq sz wt ro n) i)) + ((wq sz wt ro n i))))), none, some (.int (iI ((i : Nat) : Int))), some (.int (iI 1))]) rfl rfl ?_
              refine sInX (z := ((i : Nat) : Int)) (ls' := [some (.ref 179), some (.int (iI (-1))), some (.int (iI ((v : Nat) : Int))), some (.long (lI (((swt (fun r => Fn v r) (wq sz wt ro n) i)) + ((wq sz wt ro n i))))), none, some (.int (iI (((i : Nat) : Int) + 1))), some (.int (iI 1))]) (p := 84) rfl rfl (Nat.le_of_ble_eq_true rfl) rfl rfl ?_
              refine sL (i := .goto (-79)) rfl rfl ?_
              refine sRo (ls := [some (.ref 179), some (.int (iI (-1))), some (.int (iI ((v : Nat) : Int))), some (.long (lI (swt (fun r => Fn v r) (wq sz wt ro n) (i + 1)))), none, some (.int (iI ((i + 1 : Nat) : Int))), none]) (T := _) (And.intro rfl (And.intro rfl (And.intro rfl (And.intro (congrArg (fun z => some (Value.long z)) (congrArg lI (by show _ = swt (fun r => Fn v r) (wq sz wt ro n) i + (if (Fn v i) then _ else 0); rw [hp]; rfl))) (And.intro rfl (True.intro)))))) (rfl) (ih5 ?_)
              exact True.intro
      · exact absurd c2 (by decide)
  · have hI5 := hI5
    refine sL (pc' := 7) (i := .iload 5) rfl rfl ?_
    refine sL (pc' := 8) (i := .aload_n 0) rfl rfl ?_
    refine sGi (p := 11) rfl rfl (sk_179 _) rfl rfl rfl hv.2.2.1 ?_
    refine sIc_ge (p := 14) rfl rfl ⟨by omega, by omega⟩ ⟨by omega, by omega⟩ (fun c7 => ?_) (fun c7 => ?_)
    · have c7 := c7
      refine sL (pc' := 88) (i := .lload_n 3) rfl rfl ?_
      refine sEn (i := .lreturn) rfl (rfl) ?_
      exact ⟨rfl, rfl⟩
    · exfalso; omega
theorem m_wobFN {u v : Nat} (hv : vM S n sz) (hfn : SI S 179 9 = (fn : Nat)) (h40 : fn ≤ 40) (hF : ∀ i, i < fn → rowS S 185 (16 * i) (Fn i)) (hw : wM S n wt ro) (hu : u < fn) : sM X 2 223 [.ref 179, .int (iI (u : Nat)), .int (iI (-1))] S (sV (some (.long (lI (swt (fun r => Fn u r) (wq sz wt ro n) (pr sz n))))) S) := by
  have hn := hv.1.1
  have hT0 := hv.1.2.2
  have hwq : ∀ r, 0 ≤ wq sz wt ro n r ∧ wq sz wt ro n r ≤ 590490000000000 := wq_bM hv.1 hw
  refine sIni (ls := [some (.ref 179), some (.int (iI ((u : Nat) : Int))), some (.int (iI (-1))), none, none, none, none]) rfl ?_
  refine sKj0 (p := 1) rfl rfl rfl ?_
  refine sL (pc' := 2) (i := .lstore_n 3) (ls' := [some (.ref 179), some (.int (iI ((u : Nat) : Int))), some (.int (iI (-1))), some (.long (lI 0)), none, none, none]) rfl rfl ?_
  refine sKi (p := 3) rfl rfl ?_
  refine sL (pc' := 5) (i := .istore 5) (ls' := [some (.ref 179), some (.int (iI ((u : Nat) : Int))), some (.int (iI (-1))), some (.long (lI 0)), none, some (.int (iI 0)), none]) rfl rfl ?_
  refine sIt (A := fun i => [some (.ref 179), some (.int (iI ((u : Nat) : Int))), some (.int (iI (-1))), some (.long (lI (swt (fun r => Fn u r) (wq sz wt ro n) i))), none, some (.int (iI ((i : Nat) : Int))), none]) (B := fun _ => S) (fun _ => True) (pr sz n) True.intro (fun i hi5 hI5 ih5 => ?_) (fun hI5 => ?_)
  · have hi5 := hi5
    refine sL (pc' := 7) (i := .iload 5) rfl rfl ?_
    refine sL (pc' := 8) (i := .aload_n 0) rfl rfl ?_
    refine sGi (p := 11) rfl rfl (sk_179 _) rfl rfl rfl hv.2.2.1 ?_
    refine sIc_ge (p := 14) rfl rfl ⟨by omega, by omega⟩ ⟨by omega, by omega⟩ (fun c1 => ?_) (fun c1 => ?_)
    · exfalso; omega
    · have c1 := c1
      refine sL (pc' := 15) (i := .iload_n 1) rfl rfl ?_
      refine sKi (p := 16) rfl rfl ?_
      refine sIc_eq (p := 19) rfl rfl ⟨by omega, by omega⟩ ⟨by omega, by omega⟩ (fun c2 => ?_) (fun c2 => ?_)
      · exfalso; omega
      · have c2 := c2
        refine sL (pc' := 20) (i := .aload_n 0) rfl rfl ?_
        refine sGc (p := 23) rfl rfl (sk_179 _) rfl rfl rfl ?_
        refine sKb (p := 25) rfl rfl ?_
        refine sL (pc' := 26) (i := .iload_n 1) rfl rfl ?_
        refine sMu (p := 27) rfl rfl ?_
        refine sL (pc' := 29) (i := .iload 5) rfl rfl ?_
        refine sCs (p := 32) (as := [_, _, _]) rfl rfl rfl rfl (by decide) (Nat.le_of_ble_eq_true rfl) rfl (Nat.le_of_ble_eq_true rfl) rfl (by omega) (c_get (o := 16 * u) (r := i) (sk_185 _) ⟨by omega, by omega⟩ (hF u hu) (by omega)) ?_
        refine sBe (p := 35) rfl rfl (fun c3 => ?_) (fun c3 => ?_)
        · have c3 := c3
          have hp : (Fn u i) = false := by rw [c3]; try rfl
          refine sKi (p := 61) rfl rfl ?_
          refine sL (pc' := 63) (i := .istore 6) (ls' := [some (.ref 179), some (.int (iI ((u : Nat) : Int))), some (.int (iI (-1))), some (.long (lI (swt (fun r => Fn u r) (wq sz wt ro n) i))), none, some (.int (iI ((i : Nat) : Int))), some (.int (iI 0))]) rfl rfl ?_
          refine sL (pc' := 64) (i := .lload_n 3) rfl rfl ?_
          refine sL (pc' := 66) (i := .iload 6) rfl rfl ?_
          refine sIf_eq (p := 69) rfl rfl ⟨by omega, by omega⟩ (fun c4 => ?_) (fun c4 => ?_)
          · have c4 := c4
            refine sKj0 (p := 79) rfl rfl rfl ?_
            refine sLad (p := 80) rfl rfl ?_
            refine sL (pc' := 81) (i := .lstore_n 3) (ls' := [some (.ref 179), some (.int (iI ((u : Nat) : Int))), some (.int (iI (-1))), some (.long (lI (((swt (fun r => Fn u r) (wq sz wt ro n) i)) + 0))), none, some (.int (iI ((i : Nat) : Int))), some (.int (iI 0))]) rfl rfl ?_
            refine sInX (z := ((i : Nat) : Int)) (ls' := [some (.ref 179), some (.int (iI ((u : Nat) : Int))), some (.int (iI (-1))), some (.long (lI (((swt (fun r => Fn u r) (wq sz wt ro n) i)) + 0))), none, some (.int (iI (((i : Nat) : Int) + 1))), some (.int (iI 0))]) (p := 84) rfl rfl (Nat.le_of_ble_eq_true rfl) rfl rfl ?_
            refine sL (i := .goto (-79)) rfl rfl ?_
            refine sRo (ls := [some (.ref 179), some (.int (iI ((u : Nat) : Int))), some (.int (iI (-1))), some (.long (lI (swt (fun r => Fn u r) (wq sz wt ro n) (i + 1)))), none, some (.int (iI ((i + 1 : Nat) : Int))), none]) (T := _) (And.intro rfl (And.intro rfl (And.intro rfl (And.intro (congrArg (fun z => some (Value.long z)) (congrArg lI (by show _ = swt (fun r => Fn u r) (wq sz wt ro n) i + (if (Fn u i) then _ else 0); rw [hp]; rfl))) (And.intro rfl (True.intro)))))) (rfl) (ih5 ?_)
            exact True.intro
          · exact absurd c4 (by decide)
        · have c3 := c3
          have h1 := c3
          refine sL (pc' := 36) (i := .iload_n 2) rfl rfl ?_
          refine sKi (p := 37) rfl rfl ?_
          refine sIc_eq (p := 40) rfl rfl ⟨by omega, by omega⟩ ⟨by omega, by omega⟩ (fun c5 => ?_) (fun c5 => ?_)
          · have c5 := c5
            refine sKi (p := 57) rfl rfl ?_
            refine sL (i := .goto 4) rfl rfl ?_
            refine sL (pc' := 63) (i := .istore 6) (ls' := [some (.ref 179), some (.int (iI ((u : Nat) : Int))), some (.int (iI (-1))), some (.long (lI (swt (fun r => Fn u r) (wq sz wt ro n) i))), none, some (.int (iI ((i : Nat) : Int))), some (.int (iI 1))]) rfl rfl ?_
            refine sL (pc' := 64) (i := .lload_n 3) rfl rfl ?_
            refine sL (pc' := 66) (i := .iload 6) rfl rfl ?_
            refine sIf_eq (p := 69) rfl rfl ⟨by omega, by omega⟩ (fun c6 => ?_) (fun c6 => ?_)
            · exact absurd c6 (by decide)
            · have c6 := c6
              have hp : (Fn u i) = true := by rw [h1]; try rfl
              refine sL (pc' := 70) (i := .aload_n 0) rfl rfl ?_
              refine sL (pc' := 72) (i := .iload 5) rfl rfl ?_
              refine sCv (p := 75) (as := [_]) rfl rfl rfl rfl (by decide) (Nat.le_of_ble_eq_true rfl) rfl (Nat.le_of_ble_eq_true rfl) (sk_179 _) rfl (by omega) (m_weightOf hv hw (by omega)) ?_
              refine sL (i := .goto 4) rfl rfl ?_
              refine sLad (p := 80) rfl rfl ?_
              refine sL (pc' := 81) (i := .lstore_n 3) (ls' := [some (.ref 179), some (.int (iI ((u : Nat) : Int))), some (.int (iI (-1))), some (.long (lI (((swt (fun r => Fn u r) (wq sz wt ro n) i)) + ((wq sz wt ro n i))))), none, some (.int (iI ((i : Nat) : Int))), some (.int (iI 1))]) rfl rfl ?_
              refine sInX (z := ((i : Nat) : Int)) (ls' := [some (.ref 179), some (.int (iI ((u : Nat) : Int))), some (.int (iI (-1))), some (.long (lI (((swt (fun r => Fn u r) (wq sz wt ro n) i)) + ((wq sz wt ro n i))))), none, some (.int (iI (((i : Nat) : Int) + 1))), some (.int (iI 1))]) (p := 84) rfl rfl (Nat.le_of_ble_eq_true rfl) rfl rfl ?_
              refine sL (i := .goto (-79)) rfl rfl ?_
              refine sRo (ls := [some (.ref 179), some (.int (iI ((u : Nat) : Int))), some (.int (iI (-1))), some (.long (lI (swt (fun r => Fn u r) (wq sz wt ro n) (i + 1)))), none, some (.int (iI ((i + 1 : Nat) : Int))), none]) (T := _) (And.intro rfl (And.intro rfl (And.intro rfl (And.intro (congrArg (fun z => some (Value.long z)) (congrArg lI (by show _ = swt (fun r => Fn u r) (wq sz wt ro n) i + (if (Fn u i) then _ else 0); rw [hp]; rfl))) (And.intro rfl (True.intro)))))) (rfl) (ih5 ?_)
              exact True.intro
          · exact absurd c5 (by decide)
  · have hI5 := hI5
    refine sL (pc' := 7) (i := .iload 5) rfl rfl ?_
    refine sL (pc' := 8) (i := .aload_n 0) rfl rfl ?_
    refine sGi (p := 11) rfl rfl (sk_179 _) rfl rfl rfl hv.2.2.1 ?_
    refine sIc_ge (p := 14) rfl rfl ⟨by omega, by omega⟩ ⟨by omega, by omega⟩ (fun c7 => ?_) (fun c7 => ?_)
    · have c7 := c7
      refine sL (pc' := 88) (i := .lload_n 3) rfl rfl ?_
      refine sEn (i := .lreturn) rfl (rfl) ?_
      exact ⟨rfl, rfl⟩
    · exfalso; omega
theorem m_wobFF {u v : Nat} (hv : vM S n sz) (hfn : SI S 179 9 = (fn : Nat)) (h40 : fn ≤ 40) (hF : ∀ i, i < fn → rowS S 185 (16 * i) (Fn i)) (hw : wM S n wt ro) (hu : u < fn) (hvf : v < fn) : sM X 2 223 [.ref 179, .int (iI (u : Nat)), .int (iI (v : Nat))] S (sV (some (.long (lI (swt (fun r => Fn u r && Fn v r) (wq sz wt ro n) (pr sz n))))) S) := by
  have hn := hv.1.1
  have hT0 := hv.1.2.2
  have hwq : ∀ r, 0 ≤ wq sz wt ro n r ∧ wq sz wt ro n r ≤ 590490000000000 := wq_bM hv.1 hw
  refine sIni (ls := [some (.ref 179), some (.int (iI ((u : Nat) : Int))), some (.int (iI ((v : Nat) : Int))), none, none, none, none]) rfl ?_
  refine sKj0 (p := 1) rfl rfl rfl ?_
  refine sL (pc' := 2) (i := .lstore_n 3) (ls' := [some (.ref 179), some (.int (iI ((u : Nat) : Int))), some (.int (iI ((v : Nat) : Int))), some (.long (lI 0)), none, none, none]) rfl rfl ?_
  refine sKi (p := 3) rfl rfl ?_
  refine sL (pc' := 5) (i := .istore 5) (ls' := [some (.ref 179), some (.int (iI ((u : Nat) : Int))), some (.int (iI ((v : Nat) : Int))), some (.long (lI 0)), none, some (.int (iI 0)), none]) rfl rfl ?_
  refine sIt (A := fun i => [some (.ref 179), some (.int (iI ((u : Nat) : Int))), some (.int (iI ((v : Nat) : Int))), some (.long (lI (swt (fun r => Fn u r && Fn v r) (wq sz wt ro n) i))), none, some (.int (iI ((i : Nat) : Int))), none]) (B := fun _ => S) (fun _ => True) (pr sz n) True.intro (fun i hi5 hI5 ih5 => ?_) (fun hI5 => ?_)
  · have hi5 := hi5
    refine sL (pc' := 7) (i := .iload 5) rfl rfl ?_
    refine sL (pc' := 8) (i := .aload_n 0) rfl rfl ?_
    refine sGi (p := 11) rfl rfl (sk_179 _) rfl rfl rfl hv.2.2.1 ?_
    refine sIc_ge (p := 14) rfl rfl ⟨by omega, by omega⟩ ⟨by omega, by omega⟩ (fun c1 => ?_) (fun c1 => ?_)
    · exfalso; omega
    · have c1 := c1
      refine sL (pc' := 15) (i := .iload_n 1) rfl rfl ?_
      refine sKi (p := 16) rfl rfl ?_
      refine sIc_eq (p := 19) rfl rfl ⟨by omega, by omega⟩ ⟨by omega, by omega⟩ (fun c2 => ?_) (fun c2 => ?_)
      · exfalso; omega
      · have c2 := c2
        refine sL (pc' := 20) (i := .aload_n 0) rfl rfl ?_
        refine sGc (p := 23) rfl rfl (sk_179 _) rfl rfl rfl ?_
        refine sKb (p := 25) rfl rfl ?_
        refine sL (pc' := 26) (i := .iload_n 1) rfl rfl ?_
        refine sMu (p := 27) rfl rfl ?_
        refine sL (pc' := 29) (i := .iload 5) rfl rfl ?_
        refine sCs (p := 32) (as := [_, _, _]) rfl rfl rfl rfl (by decide) (Nat.le_of_ble_eq_true rfl) rfl (Nat.le_of_ble_eq_true rfl) rfl (by omega) (c_get (o := 16 * u) (r := i) (sk_185 _) ⟨by omega, by omega⟩ (hF u hu) (by omega)) ?_
        refine sBe (p := 35) rfl rfl (fun c3 => ?_) (fun c3 => ?_)
        · have c3 := c3
          have hp : (Fn u i && Fn v i) = false := by rw [c3]; try rfl
          refine sKi (p := 61) rfl rfl ?_
          refine sL (pc' := 63) (i := .istore 6) (ls' := [some (.ref 179), some (.int (iI ((u : Nat) : Int))), some (.int (iI ((v : Nat) : Int))), some (.long (lI (swt (fun r => Fn u r && Fn v r) (wq sz wt ro n) i))), none, some (.int (iI ((i : Nat) : Int))), some (.int (iI 0))]) rfl rfl ?_
          refine sL (pc' := 64) (i := .lload_n 3) rfl rfl ?_
          refine sL (pc' := 66) (i := .iload 6) rfl rfl ?_
          refine sIf_eq (p := 69) rfl rfl ⟨by omega, by omega⟩ (fun c4 => ?_) (fun c4 => ?_)
          · have c4 := c4
            refine sKj0 (p := 79) rfl rfl rfl ?_
            refine sLad (p := 80) rfl rfl ?_
            refine sL (pc' := 81) (i := .lstore_n 3) (ls' := [some (.ref 179), some (.int (iI ((u : Nat) : Int))), some (.int (iI ((v : Nat) : Int))), some (.long (lI (((swt (fun r => Fn u r && Fn v r) (wq sz wt ro n) i)) + 0))), none, some (.int (iI ((i : Nat) : Int))), some (.int (iI 0))]) rfl rfl ?_
            refine sInX (z := ((i : Nat) : Int)) (ls' := [some (.ref 179), some (.int (iI ((u : Nat) : Int))), some (.int (iI ((v : Nat) : Int))), some (.long (lI (((swt (fun r => Fn u r && Fn v r) (wq sz wt ro n) i)) + 0))), none, some (.int (iI (((i : Nat) : Int) + 1))), some (.int (iI 0))]) (p := 84) rfl rfl (Nat.le_of_ble_eq_true rfl) rfl rfl ?_
            refine sL (i := .goto (-79)) rfl rfl ?_
            refine sRo (ls := [some (.ref 179), some (.int (iI ((u : Nat) : Int))), some (.int (iI ((v : Nat) : Int))), some (.long (lI (swt (fun r => Fn u r && Fn v r) (wq sz wt ro n) (i + 1)))), none, some (.int (iI ((i + 1 : Nat) : Int))), none]) (T := _) (And.intro rfl (And.intro rfl (And.intro rfl (And.intro (congrArg (fun z => some (Value.long z)) (congrArg lI (by show _ = swt (fun r => Fn u r && Fn v r) (wq sz wt ro n) i + (if (Fn u i && Fn v i) then _ else 0); rw [hp]; rfl))) (And.intro rfl (True.intro)))))) (rfl) (ih5 ?_)
            exact True.intro
          · exact absurd c4 (by decide)
        · have c3 := c3
          have h1 := c3
          refine sL (pc' := 36) (i := .iload_n 2) rfl rfl ?_
          refine sKi (p := 37) rfl rfl ?_
          refine sIc_eq (p := 40) rfl rfl ⟨by omega, by omega⟩ ⟨by omega, by omega⟩ (fun c5 => ?_) (fun c5 => ?_)
          · exfalso; omega
          · have c5 := c5
            refine sL (pc' := 41) (i := .aload_n 0) rfl rfl ?_
            refine sGc (p := 44) rfl rfl (sk_179 _) rfl rfl rfl ?_
            refine sKb (p := 46) rfl rfl ?_
            refine sL (pc' := 47) (i := .iload_n 2) rfl rfl ?_
            refine sMu (p := 48) rfl rfl ?_
            refine sL (pc' := 50) (i := .iload 5) rfl rfl ?_
            refine sCs (p := 53) (as := [_, _, _]) rfl rfl rfl rfl (by decide) (Nat.le_of_ble_eq_true rfl) rfl (Nat.le_of_ble_eq_true rfl) rfl (by omega) (c_get (o := 16 * v) (r := i) (sk_185 _) ⟨by omega, by omega⟩ (hF v hvf) (by omega)) ?_
            refine sBe (p := 56) rfl rfl (fun c6 => ?_) (fun c6 => ?_)
            · have c6 := c6
              have hp : (Fn u i && Fn v i) = false := by rw [h1, c6]; try rfl
              refine sKi (p := 61) rfl rfl ?_
              refine sL (pc' := 63) (i := .istore 6) (ls' := [some (.ref 179), some (.int (iI ((u : Nat) : Int))), some (.int (iI ((v : Nat) : Int))), some (.long (lI (swt (fun r => Fn u r && Fn v r) (wq sz wt ro n) i))), none, some (.int (iI ((i : Nat) : Int))), some (.int (iI 0))]) rfl rfl ?_
              refine sL (pc' := 64) (i := .lload_n 3) rfl rfl ?_
              refine sL (pc' := 66) (i := .iload 6) rfl rfl ?_
              refine sIf_eq (p := 69) rfl rfl ⟨by omega, by omega⟩ (fun c7 => ?_) (fun c7 => ?_)
              · have c7 := c7
                refine sKj0 (p := 79) rfl rfl rfl ?_
                refine sLad (p := 80) rfl rfl ?_
                refine sL (pc' := 81) (i := .lstore_n 3) (ls' := [some (.ref 179), some (.int (iI ((u : Nat) : Int))), some (.int (iI ((v : Nat) : Int))), some (.long (lI (((swt (fun r => Fn u r && Fn v r) (wq sz wt ro n) i)) + 0))), none, some (.int (iI ((i : Nat) : Int))), some (.int (iI 0))]) rfl rfl ?_
                refine sInX (z := ((i : Nat) : Int)) (ls' := [some (.ref 179), some (.int (iI ((u : Nat) : Int))), some (.int (iI ((v : Nat) : Int))), some (.long (lI (((swt (fun r => Fn u r && Fn v r) (wq sz wt ro n) i)) + 0))), none, some (.int (iI (((i : Nat) : Int) + 1))), some (.int (iI 0))]) (p := 84) rfl rfl (Nat.le_of_ble_eq_true rfl) rfl rfl ?_
                refine sL (i := .goto (-79)) rfl rfl ?_
                refine sRo (ls := [some (.ref 179), some (.int (iI ((u : Nat) : Int))), some (.int (iI ((v : Nat) : Int))), some (.long (lI (swt (fun r => Fn u r && Fn v r) (wq sz wt ro n) (i + 1)))), none, some (.int (iI ((i + 1 : Nat) : Int))), none]) (T := _) (And.intro rfl (And.intro rfl (And.intro rfl (And.intro (congrArg (fun z => some (Value.long z)) (congrArg lI (by show _ = swt (fun r => Fn u r && Fn v r) (wq sz wt ro n) i + (if (Fn u i && Fn v i) then _ else 0); rw [hp]; rfl))) (And.intro rfl (True.intro)))))) (rfl) (ih5 ?_)
                exact True.intro
              · exact absurd c7 (by decide)
            · have c6 := c6
              have h2 := c6
              refine sKi (p := 57) rfl rfl ?_
              refine sL (i := .goto 4) rfl rfl ?_
              refine sL (pc' := 63) (i := .istore 6) (ls' := [some (.ref 179), some (.int (iI ((u : Nat) : Int))), some (.int (iI ((v : Nat) : Int))), some (.long (lI (swt (fun r => Fn u r && Fn v r) (wq sz wt ro n) i))), none, some (.int (iI ((i : Nat) : Int))), some (.int (iI 1))]) rfl rfl ?_
              refine sL (pc' := 64) (i := .lload_n 3) rfl rfl ?_
              refine sL (pc' := 66) (i := .iload 6) rfl rfl ?_
              refine sIf_eq (p := 69) rfl rfl ⟨by omega, by omega⟩ (fun c8 => ?_) (fun c8 => ?_)
              · exact absurd c8 (by decide)
              · have c8 := c8
                have hp : (Fn u i && Fn v i) = true := by rw [h1, h2]; try rfl
                refine sL (pc' := 70) (i := .aload_n 0) rfl rfl ?_
                refine sL (pc' := 72) (i := .iload 5) rfl rfl ?_
                refine sCv (p := 75) (as := [_]) rfl rfl rfl rfl (by decide) (Nat.le_of_ble_eq_true rfl) rfl (Nat.le_of_ble_eq_true rfl) (sk_179 _) rfl (by omega) (m_weightOf hv hw (by omega)) ?_
                refine sL (i := .goto 4) rfl rfl ?_
                refine sLad (p := 80) rfl rfl ?_
                refine sL (pc' := 81) (i := .lstore_n 3) (ls' := [some (.ref 179), some (.int (iI ((u : Nat) : Int))), some (.int (iI ((v : Nat) : Int))), some (.long (lI (((swt (fun r => Fn u r && Fn v r) (wq sz wt ro n) i)) + ((wq sz wt ro n i))))), none, some (.int (iI ((i : Nat) : Int))), some (.int (iI 1))]) rfl rfl ?_
                refine sInX (z := ((i : Nat) : Int)) (ls' := [some (.ref 179), some (.int (iI ((u : Nat) : Int))), some (.int (iI ((v : Nat) : Int))), some (.long (lI (((swt (fun r => Fn u r && Fn v r) (wq sz wt ro n) i)) + ((wq sz wt ro n i))))), none, some (.int (iI (((i : Nat) : Int) + 1))), some (.int (iI 1))]) (p := 84) rfl rfl (Nat.le_of_ble_eq_true rfl) rfl rfl ?_
                refine sL (i := .goto (-79)) rfl rfl ?_
                refine sRo (ls := [some (.ref 179), some (.int (iI ((u : Nat) : Int))), some (.int (iI ((v : Nat) : Int))), some (.long (lI (swt (fun r => Fn u r && Fn v r) (wq sz wt ro n) (i + 1)))), none, some (.int (iI ((i + 1 : Nat) : Int))), none]) (T := _) (And.intro rfl (And.intro rfl (And.intro rfl (And.intro (congrArg (fun z => some (Value.long z)) (congrArg lI (by show _ = swt (fun r => Fn u r && Fn v r) (wq sz wt ro n) i + (if (Fn u i && Fn v i) then _ else 0); rw [hp]; rfl))) (And.intro rfl (True.intro)))))) (rfl) (ih5 ?_)
                exact True.intro
  · have hI5 := hI5
    refine sL (pc' := 7) (i := .iload 5) rfl rfl ?_
    refine sL (pc' := 8) (i := .aload_n 0) rfl rfl ?_
    refine sGi (p := 11) rfl rfl (sk_179 _) rfl rfl rfl hv.2.2.1 ?_
    refine sIc_ge (p := 14) rfl rfl ⟨by omega, by omega⟩ ⟨by omega, by omega⟩ (fun c9 => ?_) (fun c9 => ?_)
    · have c9 := c9
      refine sL (pc' := 88) (i := .lload_n 3) rfl rfl ?_
      refine sEn (i := .lreturn) rfl (rfl) ?_
      exact ⟨rfl, rfl⟩
    · exfalso; omega
end M4
