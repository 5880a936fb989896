/-! ===== the reference's reading: formula as a whole, names ===== -/
theorem wv_bit {y : Nat → Nat} {a : Nat} (h : isL (y a) = true) : ∀ k, k < 7 → (wv y a (k + 1)).toBitVec.getLsbD (6 + 8 * k) = true
  | 0, _ => by
    have h1 : ∀ c : Nat, c < 123 → 97 ≤ c → (lI ((c : Nat) : Int)).toBitVec.getLsbD 6 = true := by decide +kernel
    have h2 := of_decide_eq_true h
    show ((wv y a 0 <<< ((iI 8).toInt64 &&& 63)) ||| lI ((y (a + 0) : Nat) : Int)).toBitVec.getLsbD 6 = true
    rw [Int64.toBitVec_or, BitVec.getLsbD_or, h1 _ (by show y a < 123; omega) (by show 97 ≤ y a; omega), Bool.or_true]
  | k + 1, hk => by
    have ih := wv_bit h k (by omega)
    show ((wv y a (k + 1) <<< ((iI 8).toInt64 &&& 63)) ||| lI ((y (a + (k + 1)) : Nat) : Int)).toBitVec.getLsbD (6 + 8 * (k + 1)) = true
    have h8 : ∀ x : Int64, (x <<< ((iI 8).toInt64 &&& 63)).toBitVec = x.toBitVec <<< (8 : Nat) := fun x => by
      rw [show (iI 8).toInt64 &&& 63 = (8 : Int64) from by decide]
      rw [Int64.toBitVec_shiftLeft]
      rw [show ((8 : Int64).toBitVec.smod 64 : BitVec 64) = 8#64 from by decide]
      rfl
    rw [Int64.toBitVec_or, BitVec.getLsbD_or, h8, BitVec.getLsbD_shiftLeft, show 6 + 8 * (k + 1) - 8 = 6 + 8 * k from by omega, ih, decide_eq_true (show 6 + 8 * (k + 1) < 64 by omega), decide_eq_false (show ¬ 6 + 8 * (k + 1) < 8 by omega)]
    rfl
theorem tC_nz {y : Nat → Nat} {s k : Nat} (h : tk y s k = 258) : tC y s (tA y s k) ≠ 0 := by
  unfold tk tK at h
  by_cases c : tA y s k < s
  · rw [if_neg (fun z => z c)] at h
    by_cases c1 : isL (y (tA y s k)) = true
    · rw [if_pos c1] at h
      unfold tC
      rw [if_pos c1]
      have h1 : tA y s k < rE isW y s (tA y s k) := rE_lt c (by unfold isW; rw [c1]; rfl)
      have h2 : rE isW y s (tA y s k) - tA y s k ≤ 6 := Classical.byContradiction fun q => by
        unfold wK at h
        rw [if_pos (by omega)] at h
        cases h
      intro z
      have h3 := wv_bit c1 (rE isW y s (tA y s k) - tA y s k - 1) (by omega)
      rw [show rE isW y s (tA y s k) - tA y s k - 1 + 1 = rE isW y s (tA y s k) - tA y s k from by omega, z] at h3
      rw [show ((0 : Int64).toBitVec : BitVec 64) = 0#64 from rfl, BitVec.getLsbD_zero] at h3
      cases h3
    · rw [if_neg c1] at h
      exfalso
      revert h
      repeat' split
      all_goals first | omega | (intro z; rename_i q; have := of_decide_eq_true q; omega)
  · rw [if_pos c] at h
    cases h
theorem fnd_cg {p q : Nat → Int64} {x : Int64} : ∀ N i, (∀ j, i ≤ j → j < i + N → p j = q j) → fnd p x N i = fnd q x N i
  | 0, _, _ => rfl
  | N + 1, i, h => by
    show (if p i = x then (i : Int) else fnd p x N (i + 1)) = if q i = x then (i : Int) else fnd q x N (i + 1)
    rw [h i (by omega) (by omega), fnd_cg N (i + 1) (fun j h1 h2 => h j (by omega) (by omega))]
theorem fnd_snoc {p : Nat → Int64} {x : Int64} : ∀ N i, fnd p x (N + 1) i = if fnd p x N i = -1 then (if p (i + N) = x then ((i + N : Nat) : Int) else -1) else fnd p x N i
  | 0, i => by
    show (if p i = x then (i : Int) else -1) = if (-1 : Int) = -1 then (if p (i + 0) = x then ((i + 0 : Nat) : Int) else -1) else -1
    rw [if_pos rfl]
    rfl
  | N + 1, i => by
    show (if p i = x then (i : Int) else fnd p x (N + 1) (i + 1)) = if (if p i = x then (i : Int) else fnd p x N (i + 1)) = -1 then (if p (i + (N + 1)) = x then ((i + (N + 1) : Nat) : Int) else -1) else (if p i = x then (i : Int) else fnd p x N (i + 1))
    by_cases c : p i = x
    · rw [if_pos c, if_pos c, if_neg (by omega)]
    · rw [if_neg c, if_neg c, fnd_snoc N (i + 1), show i + 1 + N = i + (N + 1) from by omega]
theorem nmJ_add {nm rn : Nat → Int64} {rof : Nat → Nat} {f c : Nat} {x : Int64} (h : nmJ nm f rn rof c) (hx : fnd nm x f 0 = -1) : nmJ (nup nm f x) (f + 1) (nup rn c x) (fup rof c f) (c + 1) := by
  intro z hz
  have h1 := h z hz
  have e1 : fnd (nup nm f x) z (f + 1) 0 = if fnd nm z f 0 = -1 then (if x = z then ((f : Nat) : Int) else -1) else fnd nm z f 0 := by
    rw [fnd_snoc, fnd_cg (p := nup nm f x) (q := nm) f 0 (fun j _ h2 => if_neg (by omega)), Nat.zero_add, show nup nm f x f = x from if_pos rfl]
  have e2 : fnd (nup rn c x) z (c + 1) 0 = if fnd rn z c 0 = -1 then (if x = z then ((c : Nat) : Int) else -1) else fnd rn z c 0 := by
    rw [fnd_snoc, fnd_cg (p := nup rn c x) (q := rn) c 0 (fun j _ h2 => if_neg (by omega)), Nat.zero_add, show nup rn c x c = x from if_pos rfl]
  rw [e1, e2]
  by_cases q : fnd rn z c 0 = -1
  · rw [if_pos q, if_pos (h1.1 q)]
    by_cases q2 : x = z
    · rw [if_pos q2, if_pos q2]
      refine ⟨fun z => by omega, fun _ => ?_⟩
      show _ = ((fup rof c f c : Nat) : Int)
      rw [show fup rof c f c = f from if_pos rfl]
    · rw [if_neg q2, if_neg q2]
      exact ⟨fun _ => rfl, fun z => absurd rfl z⟩
  · have h2 := h1.2 q
    rw [if_neg q, if_neg (by omega)]
    refine ⟨fun z => absurd z q, fun _ => ?_⟩
    rw [h2]
    have hb := fnd_b (nm := rn) (x := z) c 0
    rw [show fup rof c f (fnd rn z c 0).toNat = rof (fnd rn z c 0).toNat from if_neg (by omega)]
/-- a function without a name comes in -/
theorem nmJ_un {nm rn : Nat → Int64} {rof : Nat → Nat} {f c : Nat} (h : nmJ nm f rn rof c) (h0 : nm f = 0) : nmJ nm (f + 1) rn rof c := by
  intro z hz
  have h1 := h z hz
  have e1 : fnd nm z (f + 1) 0 = fnd nm z f 0 := by
    rw [fnd_snoc, Nat.zero_add, h0]
    by_cases q : fnd nm z f 0 = -1
    · rw [if_pos q, if_neg (show ¬ (0 : Int64) = z from fun q => hz q.symm), q]
    · rw [if_neg q]
  rw [e1]
  exact h1
def mAddN (S : ST) (f c : Nat) (v : Nat → Bool) (x : Int64) : ST := wI (wI (wI (wRw (wL (wRw S 186 0 v) 189 c x) 185 (16 * f) v) 179 9 ((f + 1 : Nat) : Int)) 190 c ((f : Nat) : Int)) 179 17 ((c + 1 : Nat) : Int)
theorem mFn_add {S : ST} {f c : Nat} {F : Nat → Nat → Bool} {rn : Nat → Int64} {rof : Nat → Nat} {v : Nat → Bool} {x : Int64} (h : mFn S f F c rn rof) (hf : f < 40) (hc : c < 40) : mFn (mAddN S f c v x) (f + 1) (lup F f v) (c + 1) (nup rn c x) (fup rof c f) := by
  refine ⟨(rI_nj (by decide)).trans ((rI_ne (by decide) _).trans rI_at), hf, fun i hi => ?_, rI_at, hc, fun i hi => ?_, fun i hi => ⟨?_, ?_⟩⟩
  · by_cases q : i = f
    · rw [q, show lup F f v f = v from if_pos rfl]
      exact rowS_wRw _ _ _ _
    · rw [show lup F f v i = F i from if_neg q]
      intro k hk
      show SL (wRw (wL (wRw S 186 0 v) 189 c x) 185 (16 * f) v) 185 (16 * i + k) = _
      rw [SL_wRw, if_neg (by omega), SL_wL, if_neg (by omega), SL_wRw, if_neg (by omega)]
      exact h.2.2.1 i (by omega) k hk
  · show SL (wRw (wL (wRw S 186 0 v) 189 c x) 185 (16 * f) v) 189 i = _
    rw [SL_wRw, if_neg (by omega), SL_wL]
    by_cases q : i = c
    · rw [if_pos ⟨rfl, q⟩, q, show nup rn c x c = x from if_pos rfl]
    · rw [if_neg (fun z => q z.2), SL_wRw, if_neg (by omega), show nup rn c x i = rn i from if_neg q]
      exact h.2.2.2.2.2.1 i (by omega)
  · refine (rI_ne (by decide) _).trans ?_
    by_cases q : i = c
    · rw [q, show fup rof c f c = f from if_pos rfl]
      exact rI_at
    · rw [show fup rof c f i = rof i from if_neg q]
      exact (rI_nj q).trans ((rI_ne (by decide) _).trans (h.2.2.2.2.2.2 i (by omega)).1)
  · unfold fup
    split
    · omega
    · have := (h.2.2.2.2.2.2 i (by omega)).2
      omega
/-- what reading leaves alone -/
def frE (S S' : ST) : Prop := S'.1 = S.1 ∧ SR S' = SR S ∧ (∀ c, c ≠ 179 → c ≠ 193 → c ≠ 194 → c ≠ 190 → SI S' c = SI S c) ∧ (∀ j, (j < 9 ∨ (9 < j ∧ j < 13) ∨ (14 < j ∧ j < 17) ∨ (17 < j ∧ j < 22) ∨ (34 < j)) → SI S' 179 j = SI S 179 j) ∧ (∀ c, c ≠ 179 → c ≠ 185 → c ≠ 186 → c ≠ 189 → c ≠ 192 → SL S' c = SL S c) ∧ (∀ j, j ≠ 26 → SL S' 179 j = SL S 179 j)
theorem frE_refl (S : ST) : frE S S := ⟨rfl, rfl, fun _ _ _ _ _ => rfl, fun _ _ => rfl, fun _ _ _ _ _ _ => rfl, fun _ _ => rfl⟩
theorem frE_trans {S T V : ST} (h : frE S T) (k : frE T V) : frE S V := ⟨k.1.trans h.1, k.2.1.trans h.2.1, fun c a b d e => (k.2.2.1 c a b d e).trans (h.2.2.1 c a b d e), fun c a => (k.2.2.2.1 c a).trans (h.2.2.2.1 c a), fun c a b d e f => (k.2.2.2.2.1 c a b d e f).trans (h.2.2.2.2.1 c a b d e f), fun c a => (k.2.2.2.2.2 c a).trans (h.2.2.2.2.2 c a)⟩
theorem frE_K {S S' : ST} (h : frK S S') : frE S S' := ⟨h.1, h.2.1, fun c a b d _ => h.2.2.1 c a b d, fun j hj => h.2.2.2.1 j (by omega), fun c a _ b _ d => h.2.2.2.2.1 c a b d, h.2.2.2.2.2⟩
theorem frE_w {S : ST} {k : Nat} {z : Int} (h : k = 9 ∨ k = 13 ∨ k = 14 ∨ k = 17 ∨ (22 ≤ k ∧ k ≤ 34)) : frE S (wI S 179 k z) := ⟨rfl, rfl, fun c c1 _ _ _ => funext fun j => rI_ne c1 j, fun j j1 => rI_nj (by omega), fun _ _ _ _ _ _ => rfl, fun _ _ => rfl⟩
theorem frE_a {S : ST} {k : Nat} {z : Int} : frE S (wI S 190 k z) := ⟨rfl, rfl, fun c' _ _ _ h2 => funext fun j => rI_ne h2 j, fun j _ => rI_ne (by decide) j, fun _ _ _ _ _ _ => rfl, fun _ _ => rfl⟩
theorem frE_r {S : ST} {a o : Nat} {f : Nat → Bool} (h : a = 185 ∨ a = 186 ∨ a = 192) : frE S (wRw S a o f) := ⟨rfl, rfl, fun _ _ _ _ _ => rfl, fun _ _ => rfl, fun c _ h1 h2 _ h3 => SL_wRw_ne (by omega), fun j _ => congrFun (SL_wRw_ne (by omega)) j⟩
theorem frE_l {S : ST} {k : Nat} {z : Int64} : frE S (wL S 189 k z) := ⟨rfl, rfl, fun _ _ _ _ _ => rfl, fun _ _ => rfl, fun c _ _ _ c1 _ => funext fun j => by rw [SL_wL, if_neg (fun q => c1 q.1)], fun j _ => by rw [SL_wL, if_neg (fun q => absurd q.1 (by decide))]⟩
theorem frE_add {S : ST} {f c : Nat} {v : Nat → Bool} {x : Int64} : frE S (mAddN S f c v x) := frE_trans (frE_trans (frE_trans (frE_trans (frE_trans (frE_r (Or.inr (Or.inl rfl))) frE_l) (frE_r (Or.inl rfl))) (frE_w (Or.inl rfl))) frE_a) (frE_w (Or.inr (Or.inr (Or.inr (Or.inl rfl)))))
theorem vM_E {S S' : ST} {n : Nat} {sz : Nat → Nat} (h : vM S n sz) (f : frE S S') : vM S' n sz := by
  unfold vM at *
  rw [f.2.2.1 180 (by decide) (by decide) (by decide) (by decide), f.2.2.1 181 (by decide) (by decide) (by decide) (by decide), f.2.2.2.1 1 (by decide), f.2.2.2.1 4 (by decide)]
  exact h
theorem mA_add {S : ST} {y : Nat → Nat} {s i f c : Nat} {v : Nat → Bool} {x : Int64} (h : mA S y s i) : mA (mAddN S f c v x) y s i := by
  have hi : ∀ j, j ≠ 9 → j ≠ 17 → SI (mAddN S f c v x) 179 j = SI S 179 j := fun j h1 h2 => (rI_nj h2).trans ((rI_ne (by decide) _).trans (rI_nj h1))
  have ht : ∀ j, SI (mAddN S f c v x) 188 j = SI S 188 j := fun j => (rI_ne (by decide) _).trans ((rI_ne (by decide) _).trans (rI_ne (by decide) _))
  have hl : SL (mAddN S f c v x) 179 26 = SL S 179 26 := by
    show SL (wRw (wL (wRw S 186 0 v) 189 c x) 185 (16 * f) v) 179 26 = _
    rw [SL_wRw, if_neg (by omega), SL_wL, if_neg (by omega), SL_wRw, if_neg (by omega)]
  refine ⟨⟨h.1.1, h.1.2.1, (hi 22 (by decide) (by decide)).trans h.1.2.2.1, fun j hj => (ht j).trans (h.1.2.2.2 j hj)⟩, (hi 14 (by decide) (by decide)).trans h.2.1, (hi 23 (by decide) (by decide)).trans h.2.2.1, (hi 24 (by decide) (by decide)).trans h.2.2.2.1, (hi 25 (by decide) (by decide)).trans h.2.2.2.2.1, h.2.2.2.2.2.1, fun q => hl.trans (h.2.2.2.2.2.2.1 q), fun q => (hi 27 (by decide) (by decide)).trans (h.2.2.2.2.2.2.2 q)⟩
section ML
variable {X : List Int32} {S : ST} {y : Nat → Nat} {s i n : Nat} {sz : Nat → Nat} {C : Nat → Int64} {fn nc : Nat} {Fn : Nat → Nat → Bool} {nm rn : Nat → Int64} {rof : Nat → Nat}
theorem mN_P {S' : ST} {j : Nat} (h : mN S y s j) (f : frP S S') : mN S' y s j := h.elim (fun q => Or.inl ⟨q.1, mA_P q.2 f⟩) (fun q => Or.inr ⟨q.1, mX_P q.2 f⟩)
theorem mN_s {j : Nat} (h : mN S y s j) : s ≤ 400 := h.elim (fun q => q.2.1.1) (fun q => q.2.1.1)
theorem m_formula (hv : vM S n sz) (hag : agC C y s) (hF : mFn S fn Fn nc rn rof) (hnm : nmJ nm fn rn rof nc) (htb : ∀ f, f < fn → tbT (pr sz n) (Fn f)) (hi : i ≤ nT y s) (hN : mN S y s i) (R : Nat × Nat × (Nat → Bool)) (hR : R = frm (tk y s) (pr sz n) (one (tk y s) C n sz fn Fn nm 20) i) : sM X 5 209 [.ref 179] S (fun r S' => r = none ∧ frK S S' ∧ ((R.1 = 0 ∧ tk y s R.2.1 = 59 ∧ mA S' y s R.2.1 ∧ mS n S' [] [R.2.2]) ∨ ((xpR (tk y s) 59 R).1 ≠ 0 ∧ mX S' y s (xpR (tk y s) 59 R).1 (tA y s (xpR (tk y s) 59 R).2.1)))) := by
  have hnz : ∀ k, k ≤ nT y s → tk y s k = 258 → C k ≠ 0 := fun k hk q => by
    rw [hag k hk (Or.inl q)]
    exact tC_nz q
  have hs := mN_s hN
  have hp : frP S (wI (wI (wI S 179 30 0) 179 33 0) 179 34 0) := frP_trans (frP_trans (frP_w (Or.inl rfl)) (frP_w (Or.inr (Or.inl rfl)))) (frP_w (Or.inr (Or.inr rfl)))
  have hm : mS n (wI (wI (wI S 179 30 0) 179 33 0) 179 34 0) [] [] := ⟨⟨(rI_nj (by decide)).trans rI_at, (rI_nj (by decide)).trans ((rI_nj (by decide)).trans rI_at), rI_at⟩, True.intro, True.intro, True.intro, Nat.zero_le _, Nat.zero_le _⟩

  refine sIni (ls := [some (.ref 179), none]) rfl ?_
  refine sL (pc' := 1) (i := .aload_n 0) rfl rfl ?_
  refine sKi (p := 2) rfl rfl ?_
  refine sPi (z := 0) (p := 5) rfl rfl (sk_179 _) rfl rfl rfl rfl ?_
  refine sL (pc' := 6) (i := .aload_n 0) rfl rfl ?_
  refine sKi (p := 7) rfl rfl ?_
  refine sPi (z := 0) (p := 10) rfl rfl (sk_179 _) rfl rfl rfl rfl ?_
  refine sL (pc' := 11) (i := .aload_n 0) rfl rfl ?_
  refine sKi (p := 12) rfl rfl ?_
  refine sPi (z := 0) (p := 15) rfl rfl (sk_179 _) rfl rfl rfl rfl ?_
  refine sKi (p := 16) rfl rfl ?_
  refine sL (pc' := 17) (i := .istore_n 1) (ls' := [some (.ref 179), some (.int (iI 1))]) rfl rfl ?_
  refine fm_N (b := true) (S0 := S) (W := []) (V := []) (j := i) ?_ ⟨hi, Nat.zero_le _, Nat.zero_le _, rfl, Nat.zero_le _⟩ (frK_P hp) (mN_P hN hp) hm
  refine frm_top (C := C) (N := fn) (Fn := Fn) (nm := nm) (E := EF y s n S (fun r S' => r = none ∧ frK S S' ∧ ((R.1 = 0 ∧ tk y s R.2.1 = 59 ∧ mA S' y s R.2.1 ∧ mS n S' [] [R.2.2]) ∨ ((xpR (tk y s) 59 R).1 ≠ 0 ∧ mX S' y s (xpR (tk y s) 59 R).1 (tA y s (xpR (tk y s) 59 R).2.1))))) hs hv.1 htb ?_ hi R hR ?_ ?_
  · refine ⟨fun W V i q hd h => fm_not hv q hd h, fun W V i q hd h => fm_par hv q hd h, fun W V i q hd h hb => fm_list hv hag q hd h hb, fun W V i q hd h => fm_deep hv q hd h, fun W V i q _ h hb => fm_leaf hv hag hnz hF hnm htb q h hb, fun W V i q hrk h => ?_, fun W V i q hr h => fm_cl0 hv q hr h, fun W V i W2 v V2 q hr h => fm_cl hv q hr h, fun W V i v q hr h => fm_end hv q hr h, fun W V i q0 q _ hr h => fm_bad hv q0 q hr h⟩
    by_cases c : tk y s i = 256
    · rw [if_pos c] at h
      exact fm_op3 hv c h
    · rw [if_neg c] at h
      exact fm_opr hv c hrk h
  · intro h1 h2 S' f1 f2 f3
    exact ⟨rfl, f1, Or.inl ⟨h1, h2, f2, f3⟩⟩
  · intro h1 S' f1 f2
    exact ⟨rfl, f1, Or.inr ⟨h1, f2⟩⟩
end ML
