/-! ===== the class: bytes fed ===== -/
theorem i_byt {x : Int32} {z : Int} {j : Nat} (hz : z = (j : Int)) (hj : j < 32) : (x.toUInt32 >>> ((iI z).toUInt32 &&& Int32.toUInt32 31)).toInt32 &&& iI 255 = iI ((x.toBitVec.toNat / 2 ^ j % 256 : Nat) : Int) := by
  subst hz
  have e : ∀ j : Nat, j < 32 → ((iI (j : Int)).toUInt32 &&& Int32.toUInt32 31) = UInt32.ofNat j := by decide +kernel
  have e2 : ∀ j, j < 32 → ((UInt32.ofNat j).toBitVec % 32).toNat = j := by decide +kernel
  have hx : x.toBitVec.toNat < 2 ^ 32 := x.toBitVec.isLt
  have hd : x.toBitVec.toNat / 2 ^ j < 2 ^ 32 := Nat.lt_of_le_of_lt (Nat.div_le_self _ _) hx
  have e3 : (x.toUInt32 >>> UInt32.ofNat j).toInt32 = iI ((x.toBitVec.toNat / 2 ^ j : Nat) : Int) := by
    refine Int32.toBitVec_inj.mp (BitVec.eq_of_toNat_eq ?_)
    have e4 : (x.toUInt32 >>> UInt32.ofNat j).toInt32.toBitVec = x.toBitVec >>> ((UInt32.ofNat j).toBitVec % 32) := rfl
    have e5 : (iI ((x.toBitVec.toNat / 2 ^ j : Nat) : Int)).toBitVec = BitVec.ofInt 32 ((x.toBitVec.toNat / 2 ^ j : Nat) : Int) := rfl
    rw [e4, e5, BitVec.ushiftRight_eq', e2 j hj, BitVec.toNat_ushiftRight, BitVec.toNat_ofInt, Nat.shiftRight_eq_div_pow]
    generalize x.toBitVec.toNat / 2 ^ j = q at *
    omega
  rw [e j hj, e3]
  have h := iI_and (a := ((x.toBitVec.toNat / 2 ^ j : Nat) : Int)) 8 (by decide)
  refine Eq.trans h (congrArg iI ?_)
  show ((x.toBitVec.toNat / 2 ^ j : Nat) : Int) % 256 = _
  omega
/-- the k-th byte of four -/
def fb (x : Int) (k : Nat) : Nat := (iI x).toBitVec.toNat / 2 ^ (24 - 8 * k) % 256
def adY (y : Nat → Nat) (s : Nat) (x : Int) : Nat → Nat := fun j => if s ≤ j ∧ j < s + 4 then fb x (j - s) else y j
def frB (S S' : ST) : Prop := S'.1 = S.1 ∧ SR S' = SR S ∧ (∀ c, c ≠ 64 → c ≠ 65 → SI S' c = SI S c) ∧ (∀ k, k ≠ 4 → SI S' 64 k = SI S 64 k) ∧ SL S' = SL S
theorem frB_trans {S T V : ST} (h : frB S T) (k : frB T V) : frB S V := ⟨k.1.trans h.1, k.2.1.trans h.2.1, fun c h1 h2 => (k.2.2.1 c h1 h2).trans (h.2.2.1 c h1 h2), fun c h1 => (k.2.2.2.1 c h1).trans (h.2.2.2.1 c h1), k.2.2.2.2.trans h.2.2.2.2⟩
theorem frV_B {S S' : ST} (h : frB S S') : frV S S' := ⟨⟨[], by rw [h.1, List.append_nil]⟩, fun c h1 h2 => ⟨h.2.2.1 c (by omega) (by omega), by rw [h.2.2.2.2], by rw [h.2.1]⟩, fun c m hc => h.2.2.1 c (fun z => by rw [z, sk_64] at hc; cases hc) (fun z => by rw [z, sk_65] at hc; cases hc)⟩
section CP
variable {X : List Int32} {S : ST} {n fn Z : Nat} {sz ord : Nat → Nat} {wt : Nat → Int} {ro : Nat → Bool} {Fn : Nat → Nat → Bool} {nm : Nat → Int64} {sd : Option (Nat → Bool)} {tr tn : Int} {up lo : Int64} {y : Nat → Nat} {s : Nat}
theorem CI_B {S' : ST} (h : CI S n sz wt ro fn Fn nm ord sd tr tn up lo Z) (hz : frB S S') : CI S' n sz wt ro fn Fn nm ord sd tr tn up lo Z := by
  obtain ⟨⟨v1, v2, v3, v4, v5⟩, hwC, ⟨wb, hgC⟩, ⟨f1, f2, f3, f4, f5, f6, f7⟩, ⟨b, R, pl, D, U, rt, ⟨⟨hG, hc, hu, hO, ho⟩, hrest⟩, hro, hsd, hz1, hz2⟩, t1, t2, t3, t4⟩ := h
  obtain ⟨z1, z2, z3, z4, z5⟩ := hz
  have hb := hG.1.1
  have hI : ∀ c, (c < 64 ∨ 176 < c) → SI S' c = SI S c := fun c hc => z3 c (by omega) (by omega)
  refine ⟨⟨v1, ?_, ?_, ?_, ?_⟩, ?_, ⟨wb, ?_⟩, ⟨?_, ?_, f3, fun i hi k hk => ?_, fun k hk => ?_, fun i hi => ?_, f7⟩, ⟨b, R, pl, D, U, rt, ⟨⟨dG_cg (S := S) z1 z2 (hI _ (by omega)) (hI _ (by omega)) (hI _ (by omega)) (hI _ (by omega)) (hI _ (by omega)) (hI _ (by omega)) (hI _ (by omega)) hG, hc, hu, ?_, ho⟩, hrest⟩, ?_, ?_, ?_, ?_⟩, ?_, ?_, ?_, ?_⟩
  · rw [hI 1 (by omega)]; exact v2
  · rw [hI 1 (by omega)]; exact v3
  · rw [hI 2 (by omega)]; exact v4
  · rw [hI 3 (by omega)]; exact v5
  · unfold wC at *
    rw [hI 4 (by omega), hI 5 (by omega)]
    exact hwC
  · unfold gC at *
    rw [hI 1 (by omega), z5]
    exact hgC
  · rw [hI 7 (by omega)]; exact f1
  · rw [hI 7 (by omega)]; exact f2
  · rw [z5]; exact f4 i hi k hk
  · rw [z5]; exact f5 k hk
  · rw [z5]; exact f6 i hi
  · unfold oC at *
    rw [hI 53 (by omega), hI 54 (by omega)]
    exact hO
  · rw [hI 50 (by omega)]
    exact hro
  · unfold cSd at *
    rw [hI 0 (by omega)]
    exact hsd
  · unfold tz at *
    rw [z1]
    exact hz1
  · rw [z1]
    exact hz2
  · rw [hI 0 (by omega)]; exact t1
  · rw [hI 0 (by omega)]; exact t2
  · rw [z5]; exact t3
  · rw [z5]; exact t4
theorem c_addBytes {x : Int} (ht : tp S y s) (h4 : s + 4 ≤ 400) : sM X 0 109 [.ref 64, .int (iI x)] S (fun r S' => r = some (.int (iI ((s + 4 : Nat) : Int))) ∧ tp S' (adY y s x) (s + 4) ∧ frB S S') := by
  obtain ⟨S0, hS0⟩ : ∃ S0, S0 = S := ⟨_, rfl⟩
  have hy : ∀ j, adY y s x j < 256 := fun j => by
    unfold adY fb
    split
    · exact Nat.mod_lt _ (by decide)
    · exact ht.2.1 j
  have ht0 : tp S (adY y s x) (s + 0) := ⟨by omega, hy, ht.2.2.1, fun j hj => by
    rw [show adY y s x j = y j from if_neg (by omega)]
    exact ht.2.2.2 j hj⟩
  refine sIni (ls := [some (.ref 64), some (.int (iI x)), none]) rfl ?_
  refine sKb (p := 2) rfl rfl ?_
  refine sL (pc' := 3) (i := .istore_n 2) (ls' := [some (.ref 64), some (.int (iI x)), some (.int (iI 24))]) rfl rfl ?_
  refine sItR (A := fun k => [some (.ref 64), some (.int (iI x)), some (.int (iI (24 - 8 * ((k : Nat) : Int))))]) (fun k S => tp S (adY y s x) (s + k) ∧ frB S0 S) 4 (⟨ht0, by rw [hS0]; exact ⟨rfl, rfl, fun _ _ _ => rfl, fun _ _ => rfl, rfl⟩⟩) (fun k hi3 Sa hJ3 ih3 => ?_) (fun Saf hJ3 => ?_)
  · have hi3 := hi3
    obtain ⟨hta, hfa⟩ := hJ3
    refine sL (pc' := 4) (i := .iload_n 2) rfl rfl ?_
    refine sIf_lt (p := 7) rfl rfl ⟨by omega, by omega⟩ (fun c1 => ?_) (fun c1 => ?_)
    · exfalso; omega
    · have c1 := c1
      refine sL (pc' := 8) (i := .aload_n 0) rfl rfl ?_
      refine sGi (p := 11) rfl rfl (sk_64 _) rfl rfl rfl (show SI Sa 64 4 = ((s + k : Nat) : Int) from hta.2.2.1) ?_
      refine sKs (p := 14) rfl rfl ?_
      refine sIc_ge (p := 17) rfl rfl ⟨by omega, by omega⟩ ⟨by omega, by omega⟩ (fun c2 => ?_) (fun c2 => ?_)
      · exfalso; omega
      · have c2 := c2
        refine sL (pc' := 18) (i := .aload_n 0) rfl rfl ?_
        refine sGc (p := 21) rfl rfl (sk_64 _) rfl rfl rfl ?_
        refine sL (pc' := 22) (i := .aload_n 0) rfl rfl ?_
        refine sGi (p := 25) rfl rfl (sk_64 _) rfl rfl rfl (show SI Sa 64 4 = ((s + k : Nat) : Int) from hta.2.2.1) ?_
        refine sL (pc' := 26) (i := .iload_n 1) rfl rfl ?_
        refine sL (pc' := 27) (i := .iload_n 2) rfl rfl ?_
        refine sL (pc' := 28) (i := .iushr) rfl rfl ?_
        refine sKs (p := 31) rfl rfl ?_
        refine sL (pc' := 32) (i := .iand) rfl rfl ?_
        rw [i_byt (x := iI x) (z := 24 - 8 * ((k : Nat) : Int)) (j := 24 - 8 * k) (by omega) (by omega)]
        refine sWi (p := 33) (i := s + k) rfl rfl (sk_65 _) (by omega) ⟨by omega, by omega⟩ ?_
        refine sL (pc' := 34) (i := .aload_n 0) rfl rfl ?_
        refine sL (pc' := 35) (i := .dup) rfl rfl ?_
        refine sGi (p := 38) rfl rfl (sk_64 _) rfl rfl rfl (show SI (wI Sa 65 (s + k) ((fb x k : Nat) : Int)) 64 4 = ((s + k : Nat) : Int) from (rI_ne (by decide) _).trans hta.2.2.1) ?_
        refine sKi (p := 39) rfl rfl ?_
        refine sAd (p := 40) rfl rfl ?_
        refine sPi (z := (((s + k : Nat) : Int) + 1)) (p := 43) rfl rfl (sk_64 _) rfl rfl rfl rfl ?_
        refine sInX (z := (24 - 8 * ((k : Nat) : Int))) (ls' := [some (.ref 64), some (.int (iI x)), some (.int (iI ((24 - 8 * ((k : Nat) : Int)) + (-8))))]) (p := 46) rfl rfl (Nat.le_of_ble_eq_true rfl) rfl rfl ?_
        refine sL (i := .goto (-43)) rfl rfl ?_
        refine sFg (ls := [some (.ref 64), some (.int (iI x)), some (.int (iI (24 - 8 * ((k + 1 : Nat) : Int))))]) (xx_ll_le (And.intro rfl (And.intro rfl (And.intro (congrArg (fun z => some (Value.int (iI z))) (by omega)) (True.intro))))) (ih3 _ ?_)
        refine ⟨⟨by omega, hy, rI_at, fun j hj => ?_⟩, frB_trans hfa ⟨rfl, rfl, fun c c1 c2 => funext fun j => (rI_ne c1 j).trans (rI_ne c2 j), fun j hj => (rI_nj hj).trans (rI_ne (by decide) _), rfl⟩⟩
        rw [rI_ne (by decide)]
        by_cases cj : j = s + k
        · rw [cj, rI_at]
          show _ = ((adY y s x (s + k) : Nat) : Int)
          rw [show adY y s x (s + k) = fb x (s + k - s) from if_pos (by omega), show s + k - s = k from by omega]
          rfl
        · rw [rI_nj cj]
          exact hta.2.2.2 j (by omega)
  · have hJ3 := hJ3
    obtain ⟨hta, hfa⟩ := hJ3
    refine sL (pc' := 4) (i := .iload_n 2) rfl rfl ?_
    refine sIf_lt (p := 7) rfl rfl ⟨by omega, by omega⟩ (fun c3 => ?_) (fun c3 => ?_)
    · have c3 := c3
      refine sL (pc' := 50) (i := .aload_n 0) rfl rfl ?_
      refine sGi (p := 53) rfl rfl (sk_64 _) rfl rfl rfl hta.2.2.1 ?_
      refine sEn (i := .ireturn) rfl (rfl) ?_
      rw [hS0] at hfa
      exact ⟨rfl, hta, hfa⟩
    · exfalso; omega
theorem c_hasRoom (ht : tp S y s) : sM X 0 108 [.ref 64] S (sV (some (.int (iI (bI (decide (s ≤ 380)))))) S) := by
  have hs := ht.1
  refine sIni (ls := [some (.ref 64)]) rfl ?_
  refine sL (pc' := 1) (i := .aload_n 0) rfl rfl ?_
  refine sGi (p := 4) rfl rfl (sk_64 _) rfl rfl rfl ht.2.2.1 ?_
  refine sKb (p := 6) rfl rfl ?_
  refine sAd (p := 7) rfl rfl ?_
  refine sKs (p := 10) rfl rfl ?_
  refine sIc_gt (p := 13) rfl rfl ⟨by omega, by omega⟩ ⟨by omega, by omega⟩ (fun c1 => ?_) (fun c1 => ?_)
  · have c1 := c1
    refine sKi (p := 18) rfl rfl ?_
    refine sEn (i := .ireturn) rfl (rfl) ?_
    exact ⟨by rw [decide_eq_false (by omega)]; rfl, rfl⟩
  · have c1 := c1
    refine sKi (p := 14) rfl rfl ?_
    refine sL (i := .goto 4) rfl rfl ?_
    refine sEn (i := .ireturn) rfl (rfl) ?_
    exact ⟨by rw [decide_eq_true (by omega)]; rfl, rfl⟩
theorem k_Feed {a b c e f : Int} (h : CI S n sz wt ro fn Fn nm ord sd tr tn up lo Z) (ht : tp S y s) (hs : s ≤ 380) : sM X 1 134 [.ref 0, .int (iI a), .int (iI b), .int (iI c), .int (iI e), .int (iI f)] S (fun r S' => r = some (.int (iI ((s + 4 + 4 + 4 + 4 + 4 : Nat) : Int))) ∧ tp S' (adY (adY (adY (adY (adY y s a) (s + 4) b) (s + 4 + 4) c) (s + 4 + 4 + 4) e) (s + 4 + 4 + 4 + 4) f) (s + 4 + 4 + 4 + 4 + 4) ∧ CI S' n sz wt ro fn Fn nm ord sd tr tn up lo Z ∧ frV S S' ∧ SI S' 69 = SI S 69) := by
  refine sIni (ls := [some (.ref 0), some (.int (iI a)), some (.int (iI b)), some (.int (iI c)), some (.int (iI e)), some (.int (iI f))]) rfl ?_
  refine sL (pc' := 1) (i := .aload_n 0) rfl rfl ?_
  refine sGc (p := 4) rfl rfl (sk_0 _) rfl rfl rfl ?_
  refine sCv (p := 7) (as := []) rfl rfl rfl rfl (by decide) (Nat.le_of_ble_eq_true rfl) rfl (Nat.le_of_ble_eq_true rfl) (sk_64 _) rfl (by omega) (c_hasRoom ht) ?_
  refine sBn (p := 10) rfl rfl (fun c1 => ?_) (fun c1 => ?_)
  · have c1 := c1
    have c1 := of_decide_eq_true c1
    refine sL (pc' := 21) (i := .aload_n 0) rfl rfl ?_
    refine sGc (p := 24) rfl rfl (sk_0 _) rfl rfl rfl ?_
    refine sL (pc' := 25) (i := .iload_n 1) rfl rfl ?_
    refine sCvQ (p := 28) (as := [_]) rfl rfl rfl rfl (by decide) (Nat.le_of_ble_eq_true rfl) rfl (Nat.le_of_ble_eq_true rfl) (sk_64 _) rfl (by omega) (c_addBytes ht (by omega)) ?_
    rintro _ S1 ⟨rfl, ht1, hf1⟩
    refine sL (pc' := 29) (i := .pop) rfl rfl ?_
    refine sL (pc' := 30) (i := .aload_n 0) rfl rfl ?_
    refine sGc (p := 33) rfl rfl (sk_0 _) rfl rfl rfl ?_
    refine sL (pc' := 34) (i := .iload_n 2) rfl rfl ?_
    refine sCvQ (p := 37) (as := [_]) rfl rfl rfl rfl (by decide) (Nat.le_of_ble_eq_true rfl) rfl (Nat.le_of_ble_eq_true rfl) (sk_64 _) rfl (by omega) (c_addBytes ht1 (by omega)) ?_
    rintro _ S2 ⟨rfl, ht2, hf2⟩
    refine sL (pc' := 38) (i := .pop) rfl rfl ?_
    refine sL (pc' := 39) (i := .aload_n 0) rfl rfl ?_
    refine sGc (p := 42) rfl rfl (sk_0 _) rfl rfl rfl ?_
    refine sL (pc' := 43) (i := .iload_n 3) rfl rfl ?_
    refine sCvQ (p := 46) (as := [_]) rfl rfl rfl rfl (by decide) (Nat.le_of_ble_eq_true rfl) rfl (Nat.le_of_ble_eq_true rfl) (sk_64 _) rfl (by omega) (c_addBytes ht2 (by omega)) ?_
    rintro _ S3 ⟨rfl, ht3, hf3⟩
    refine sL (pc' := 47) (i := .pop) rfl rfl ?_
    refine sL (pc' := 48) (i := .aload_n 0) rfl rfl ?_
    refine sGc (p := 51) rfl rfl (sk_0 _) rfl rfl rfl ?_
    refine sL (pc' := 53) (i := .iload 4) rfl rfl ?_
    refine sCvQ (p := 56) (as := [_]) rfl rfl rfl rfl (by decide) (Nat.le_of_ble_eq_true rfl) rfl (Nat.le_of_ble_eq_true rfl) (sk_64 _) rfl (by omega) (c_addBytes ht3 (by omega)) ?_
    rintro _ S4 ⟨rfl, ht4, hf4⟩
    refine sL (pc' := 57) (i := .pop) rfl rfl ?_
    refine sL (pc' := 58) (i := .aload_n 0) rfl rfl ?_
    refine sGc (p := 61) rfl rfl (sk_0 _) rfl rfl rfl ?_
    refine sL (pc' := 63) (i := .iload 5) rfl rfl ?_
    refine sCvQ (p := 66) (as := [_]) rfl rfl rfl rfl (by decide) (Nat.le_of_ble_eq_true rfl) rfl (Nat.le_of_ble_eq_true rfl) (sk_64 _) rfl (by omega) (c_addBytes ht4 (by omega)) ?_
    rintro _ S5 ⟨rfl, ht5, hf5⟩
    refine sEn (i := .ireturn) rfl (rfl) ?_
    have hfB := frB_trans hf1 (frB_trans hf2 (frB_trans hf3 (frB_trans hf4 hf5)))
    exact ⟨rfl, ht5, CI_B h hfB, frV_B hfB, hfB.2.2.1 69 (by decide) (by decide)⟩
  · exfalso; have c1 := of_decide_eq_false c1; omega
theorem k_End {k : Nat} (h : CI S n sz wt ro fn Fn nm ord sd tr tn up lo Z) (ht : tp S y s) (hk : k ≤ s) : sM X 0 135 [.ref 0, .int (iI ((k : Nat) : Int))] S (fun r S' => r = none ∧ tp S' y k ∧ CI S' n sz wt ro fn Fn nm ord sd tr tn up lo Z ∧ frV S S' ∧ SI S' 69 = SI S 69) := by
  have hs := ht.1
  refine sIni (ls := [some (.ref 0), some (.int (iI ((k : Nat) : Int)))]) rfl ?_
  refine sL (pc' := 1) (i := .iload_n 1) rfl rfl ?_
  refine sIf_lt (p := 4) rfl rfl ⟨by omega, by omega⟩ (fun c1 => ?_) (fun c1 => ?_)
  · exfalso; omega
  · have c1 := c1
    refine sL (pc' := 5) (i := .iload_n 1) rfl rfl ?_
    refine sL (pc' := 6) (i := .aload_n 0) rfl rfl ?_
    refine sGc (p := 9) rfl rfl (sk_0 _) rfl rfl rfl ?_
    refine sGi (p := 12) rfl rfl (sk_64 _) rfl rfl rfl ht.2.2.1 ?_
    refine sIc_le (p := 15) rfl rfl ⟨by omega, by omega⟩ ⟨by omega, by omega⟩ (fun c2 => ?_) (fun c2 => ?_)
    · have c2 := c2
      refine sL (pc' := 26) (i := .aload_n 0) rfl rfl ?_
      refine sGc (p := 29) rfl rfl (sk_0 _) rfl rfl rfl ?_
      refine sL (pc' := 30) (i := .iload_n 1) rfl rfl ?_
      refine sPi (z := ((k : Nat) : Int)) (p := 33) rfl rfl (sk_64 _) rfl rfl rfl rfl ?_
      refine sEn (i := .return_) rfl (rfl) ?_
      have hfB : frB S (wI S 64 4 ((k : Nat) : Int)) := ⟨rfl, rfl, fun c c1 _ => funext fun j => rI_ne c1 j, fun j hj => rI_nj hj, rfl⟩
      exact ⟨rfl, ⟨by omega, ht.2.1, rI_at, fun j hj => (rI_ne (by decide) _).trans (ht.2.2.2 j (by omega))⟩, CI_B h hfB, frV_B hfB, hfB.2.2.1 69 (by decide) (by decide)⟩
    · exfalso; omega
end CP
