/-! ===== the diagram: nodeOf as a whole, room made ===== -/
theorem sM_of {X : List Int32} {d y : Nat} {as : List Value} {S S' : ST} {v : Option Value} {Q : Option Value → ST → Prop} (h : sM X d y as S (sV v S')) (hq : Q v S') : sM X d y as S Q := by
  refine xv_T.weaken h ?_
  rintro pc ls st h0 ⟨T, e1, e, v', h1, h2, h3, h4⟩
  exact ⟨S', e1.trans h4, e, v, h1, h3 ▸ h2, hq⟩
def nQ (S : ST) (b R n : Nat) (sz : Nat → Nat) (D : DT) (ex : Nat → Nat) (out U v : Nat) (w : Nat → Nat) (g : Nat → Bool) (r : Option Value) (S' : ST) : Prop := ∃ y D' U', r = some (.int (iI ((y : Nat) : Int))) ∧ dG S' b R n sz D' ex out U' ∧ dok D' out y ∧ ds D' y = g ∧ xtD D out D' ∧ cntB (dl D') U' ≤ cntB (dl D) U + 1 ∧ (∀ x, dl D' x = true → dl D x = true ∨ (x = y ∧ dv D' y = v ∧ dpT n sz g v = true)) ∧ (∀ k, k < sz v → w k = y ∨ (dl D' y = true ∧ k < sz (dv D' y) ∧ dk D' y k = w k)) ∧ (∀ j, out * 6 ≤ j → j < out * 6 + 6 → SI S' (b + 5) j = SI S (b + 5) j) ∧ frO b S S'
section DE
variable {X : List Int32} {S : ST} {b R n U out : Nat} {sz : Nat → Nat} {D : DT} {ex : Nat → Nat} {v o : Nat} {w : Nat → Nat} {g : Nat → Bool}
theorem dok_lt (hP : dP n sz D out U) (hU2 : 2 ≤ U) {x : Nat} (h : dok D out x) : x < U := by
  rcases h with h | h | h
  · omega
  · exact (hP.1 x h).2.1
  · rcases hP.2.1 with h2 | h2 <;> omega
theorem dF_room {fr : CQ} (hF : dF S b D out U fr) (hrm : cntB (dl D) U + o1 out + 2 < R) (h0 : fr.1 = 0) : U < R := by
  have h := fill (p := dl D) (out := out) (N := U) (fun x h1 h2 => Classical.byContradiction fun c => by
    have h3 : dl D x = false := by
      cases e : dl D x with
      | false => rfl
      | true => exact absurd (Or.inl e) c
    have h4 : x ≠ out := fun z => c (Or.inr ⟨z, by omega⟩)
    obtain ⟨i, hi, _⟩ := (hF.2 x).mpr ⟨h1, h2, h3, h4⟩
    omega)
  by_cases c : out < U
  · rw [if_pos c] at h
    omega
  · rw [if_neg c] at h
    omega
theorem c_nodeOf (hvC : vC S n sz) (hG : dG S b R n sz D ex out U) (hv : v < n) (ho : o + sz v ≤ 60) (hw : ∀ k, k < sz v → SI S 56 (o + k) = ((w k : Nat) : Int)) (hwk : ∀ k, k < sz v → dok D out (w k) ∧ ds D (w k) = cof n sz g v k) (ht : tbT (pr sz n) g) (hun : dpT n sz g v = true → ∀ x, dok D out x → ds D x = g → dl D x = true ∧ dv D x = v) (hrm : cntB (dl D) U + o1 out + 2 < R) : sM X 1 33 [.ref 52, .int (iI (v : Nat)), .int (iI (o : Nat))] S (nQ S b R n sz D ex out U v w g) := by
  have hG0 := hG
  obtain ⟨hA, hP, hM, ⟨ch, hC⟩, ⟨fr, hF⟩, hL, hU, hUR, hU2, hz⟩ := hG
  have hwf := hvC.1
  have hsv := hwf.2.1 v hv
  have hwb : ∀ k, k < sz v → w k < R := fun k hk => by
    have := dok_lt hP hU2 (hwk k hk).1
    omega
  have hroom := dF_room hF hrm
  by_cases hal : ∀ k, k < sz v → w k = w 0
  · have hnd : dpT n sz g v = false := dpT_cof hwf hv (fun k hk => by rw [← (hwk k hk).2, ← (hwk 0 (by omega)).2, hal k hk])
    have hg : ds D (w 0) = g := (hwk 0 (by omega)).2.trans (cof_no hwf hv (by omega) ht hnd)
    exact sM_of (c_nodeOf_e hvC hA hv ho hw hwb hal) ⟨w 0, D, U, rfl, hG0, (hwk 0 (by omega)).1, hg, xtD_refl _ _, by omega, fun x hx => Or.inl hx, fun k hk => Or.inl (hal k hk), fun _ _ _ => rfl, frO_refl _ _⟩
  · have hdp : dpT n sz g v = true := by
      cases e : dpT n sz g v with
      | true => rfl
      | false => exact absurd (fun k hk => hP.2.2.2.2.2.2 _ _ (hwk k hk).1 (hwk 0 (by omega)).1 (by rw [(hwk k hk).2, (hwk 0 (by omega)).2, cof_no hwf hv hk ht e, cof_no hwf hv (by omega) ht e])) hal
    by_cases hex : ∃ x, dok D out x ∧ ds D x = g
    · obtain ⟨x, h1, h2⟩ := hex
      obtain ⟨h3, h4⟩ := hun hdp x h1 h2
      have hk : ∀ k, k < sz v → dk D x k = w k := fun k hk => by
        have k1 := hP.2.2.2.1 x h3 k (by rw [h4]; exact hk)
        rw [h2, h4] at k1
        exact hP.2.2.2.2.2.2 _ _ k1.1 (hwk k hk).1 (k1.2.trans (hwk k hk).2.symm)
      exact sM_of (c_nodeOf_f hvC hA hv ho hw hwb hC hP hUR hM hal h3 h4 hk) ⟨x, D, U, rfl, hG0, h1, h2, xtD_refl _ _, by omega, fun x hx => Or.inl hx, fun k hkk => Or.inr ⟨h3, by rw [h4]; exact hkk, hk k hkk⟩, fun _ _ _ => rfl, frO_refl _ _⟩
    · have hi : ∀ x, dok D out x → ds D x ≠ g := fun x h1 h2 => hex ⟨x, h1, h2⟩
      have hnx : ∀ x, dl D x = true → dv D x = v → ¬ ∀ k, k < sz v → dk D x k = w k := fun x h1 h2 h3 => hi x (Or.inr (Or.inl h1)) (cof_ext hwf hv (hP.2.2.1 x h1).2.1 ht (fun k hk => by
        have k1 := (hP.2.2.2.1 x h1 k (by rw [h2]; exact hk)).2
        rw [h2, h3 k hk] at k1
        rw [← k1]
        exact (hwk k hk).2))
      obtain ⟨y1, y2, y3, y4, y5, y6⟩ := nY_ok hP hF hU2 hUR hroom
      have hnok : ¬ dok D out (nY fr U) := by
        rintro (h | h | h)
        · omega
        · rw [y3] at h
          exact absurd h (by decide)
        · exact y4 h
      refine sM_of (c_nodeOf_n (L := cntB (dl D) U + o1 out) hvC hA hv ho hw hwb hC hP hUR hM hF hU hU2 hL hroom hal hnx rfl) ⟨nY fr U, setD D (nY fr U) v w g, nU fr U, rfl, dG_new hA hP hM hC hF hU hUR hU2 hz hroom hwf hv ht hdp hwk hi rfl, Or.inr (Or.inl setD_ly), setD_sy, ⟨fun x hx => ?_, fun x hx => ?_⟩, ?_, fun x hx => ?_, fun k hk => Or.inr ⟨setD_ly, by rw [setD_vy]; exact hk, by rw [setD_ky]⟩, fun j hj1 hj2 => ?_, frO_new⟩
      · have cx : x ≠ nY fr U := fun z => by rw [z, y3] at hx; exact absurd hx (by decide)
        exact ⟨(setD_ln cx).trans hx, setD_vn cx, setD_kn cx⟩
      · exact setD_sn (fun z => hnok (by rw [← z]; exact hx))
      · rw [cnt_set y2 y3]
        unfold nU
        by_cases c0 : fr.1 = 0
        · rw [if_pos c0]
          have hyU : nY fr U = U := if_pos c0
          rw [hyU] at y3
          show cntB (dl D) U + (if dl D U then 1 else 0) + 1 ≤ _
          rw [y3]
          exact Nat.le_refl _
        · rw [if_neg c0]
          exact Nat.le_refl _
      · rcases setD_i.mp hx with h | h
        · exact Or.inl h
        · exact Or.inr ⟨h, setD_vy, hdp⟩
      · have hb58 := hA.1
        unfold lkS
        rw [rI_ne (by omega), rI_ne (by omega), rI_ne (by omega), nN_5 (by omega), if_neg (by omega)]
/-- a row of ints is copied into a new, longer one -/
def cp1 (S : ST) (a N m : Nat) : ST := wIA (nA S 0 m) (203 + S.1.length) (fun k => if k < N then SI S a k else 0)
theorem nA_old {t m c : Nat} (h : c < 203 + S.1.length) : SI (nA S t m) c = SI S c := ua_ne (by omega)
theorem nA_new {t m k : Nat} : SI (nA S t m) (203 + S.1.length) k = 0 := congrFun ua_eq k
theorem cp1_eq {a N m : Nat} (h : a < 203 + S.1.length) : wIA (nA S 0 m) (203 + S.1.length) (fun k => if 0 ≤ k ∧ k < 0 + N then SI (nA S 0 m) a (0 + (k - 0)) else SI (nA S 0 m) (203 + S.1.length) k) = cp1 S a N m := by
  unfold cp1
  congr 1
  funext k
  by_cases c : k < N
  · rw [if_pos (by omega), if_pos c, nA_old h, Nat.zero_add, Nat.sub_zero]
  · rw [if_neg (by omega), if_neg c, nA_new]
theorem c_copyOf {a N m : Nat} (hk : kd S a = some (.inl (0, N))) (hN : N < m ∧ m ≤ 1000000) : sM X 1 325 [.ref a, .int (iI (m : Nat))] S (sV (some (.ref (203 + S.1.length))) (cp1 S a N m)) := by
  have hal := kd_len hk
  refine sIni (ls := [some (.ref a), some (.int (iI ((m : Nat) : Int))), none]) rfl ?_
  refine sL (pc' := 1) (i := .iload_n 1) rfl rfl ?_
  refine sL (pc' := 2) (i := .aload_n 0) rfl rfl ?_
  refine sLn (p := 3) rfl rfl hk (by decide) ?_
  refine sIc_ne (p := 6) rfl rfl ⟨by omega, by omega⟩ ⟨by omega, by omega⟩ (fun c1 => ?_) (fun c1 => ?_)
  · have c1 := c1
    refine sL (pc' := 15) (i := .iload_n 1) rfl rfl ?_
    refine sNa (t := 0) (n := m) (p := 17) rfl rfl (Or.inl ⟨rfl, rfl⟩) rfl (by omega) ?_
    refine sL (pc' := 18) (i := .astore_n 2) (ls' := [some (.ref a), some (.int (iI ((m : Nat) : Int))), some (.ref (203 + S.1.length))]) rfl rfl ?_
    refine sL (pc' := 19) (i := .aload_n 0) rfl rfl ?_
    refine sKi (p := 20) rfl rfl ?_
    refine sL (pc' := 21) (i := .aload_n 2) rfl rfl ?_
    refine sKi (p := 22) rfl rfl ?_
    refine sL (pc' := 23) (i := .aload_n 0) rfl rfl ?_
    refine sLn (p := 24) rfl rfl ((kd_nA hal).trans hk) (by decide) ?_
    refine sL (pc' := 25) (i := .iload_n 1) rfl rfl ?_
    refine sCs (p := 28) (as := [_, _]) rfl rfl rfl rfl (by decide) (Nat.le_of_ble_eq_true rfl) rfl (Nat.le_of_ble_eq_true rfl) rfl (by omega) (c_min (x := (N : Nat)) (y := (m : Nat)) ⟨by omega, by omega⟩ ⟨by omega, by omega⟩) ?_
    rw [if_neg (by omega)]
    refine sAcI (p := 31) (n := N) (dp := 0) (sp := 0) rfl rfl ((kd_nA hal).trans hk) (kd_nA_new _ _) rfl rfl rfl (by omega) (by omega) ⟨by omega, by omega⟩ (by decide) ?_
    rw [cp1_eq hal]
    refine sL (pc' := 32) (i := .aload_n 2) rfl rfl ?_
    refine sEn (i := .areturn) rfl (rfl) ?_
    exact ⟨rfl, rfl⟩
  · exfalso; omega
def stp (S : ST) (f a N m : Nat) : ST := wR (cp1 S a N m) 52 f (203 + S.1.length)
theorem stp_1 {f a N m : Nat} : (stp S f a N m).1 = S.1 ++ [.inl (0, m)] := rfl
theorem stp_l {f a N m : Nat} : (stp S f a N m).1.length = S.1.length + 1 := by
  rw [stp_1, List.length_append]
  rfl
theorem stp_o {f a N m c : Nat} (h : c < 203 + S.1.length) : SI (stp S f a N m) c = SI S c := funext fun k => by
  show SI (wIA (nA S 0 m) (203 + S.1.length) _) c k = _
  rw [rA_ne (by omega), nA_old h]
theorem stp_L {f a N m c : Nat} (h : c < 203 + S.1.length) : SL (stp S f a N m) c = SL S c := ua_ne (by omega)
theorem stp_n {f a N m e k : Nat} (he : e = 203 + S.1.length) : SI (stp S f a N m) e k = if k < N then SI S a k else 0 := by
  subst he
  exact rA_at
theorem stp_R {f a N m c g : Nat} : SR (stp S f a N m) c g = if c = 52 ∧ g = f then 203 + S.1.length else SR S c g := rfl
theorem stp_ko {f a N m c : Nat} (h : c < 203 + S.1.length) : kd (stp S f a N m) c = kd S c := kd_nA h
theorem stp_kn {f a N m e : Nat} (he : e = 203 + S.1.length) : kd (stp S f a N m) e = some (.inl (0, m)) := by
  subst he
  exact kd_nA_new 0 m
def mr1 (S : ST) (b R : Nat) : ST := stp S 6 b R (R * 2)
def mr2 (S : ST) (b R : Nat) : ST := stp (mr1 S b R) 7 (b + 1) R (R * 2)
def mr3 (S : ST) (b R : Nat) : ST := stp (mr2 S b R) 8 (b + 2) R (R * 2)
def mr4 (S : ST) (b R : Nat) : ST := stp (mr3 S b R) 9 (b + 3) R (R * 2)
def mr5 (S : ST) (b R : Nat) : ST := stp (mr4 S b R) 10 (b + 4) R (R * 2)
def mrS (S : ST) (b R : Nat) : ST := stp (mr5 S b R) 11 (b + 5) (6 * R) (R * 2 * 6)
theorem mr1_l : (mr1 S b R).1.length = S.1.length + 1 := stp_l
theorem mr2_l : (mr2 S b R).1.length = S.1.length + 2 := by rw [mr2, stp_l, mr1_l]
theorem mr3_l : (mr3 S b R).1.length = S.1.length + 3 := by rw [mr3, stp_l, mr2_l]
theorem mr4_l : (mr4 S b R).1.length = S.1.length + 4 := by rw [mr4, stp_l, mr3_l]
theorem mr5_l : (mr5 S b R).1.length = S.1.length + 5 := by rw [mr5, stp_l, mr4_l]
theorem mrS_l : (mrS S b R).1.length = S.1.length + 6 := by rw [mrS, stp_l, mr5_l]
theorem mr1_o {c : Nat} (h : c < 203 + S.1.length) : SI (mr1 S b R) c = SI S c := stp_o h
theorem mr2_o {c : Nat} (h : c < 203 + S.1.length) : SI (mr2 S b R) c = SI S c := by rw [mr2, stp_o (by rw [mr1_l]; omega), mr1_o h]
theorem mr3_o {c : Nat} (h : c < 203 + S.1.length) : SI (mr3 S b R) c = SI S c := by rw [mr3, stp_o (by rw [mr2_l]; omega), mr2_o h]
theorem mr4_o {c : Nat} (h : c < 203 + S.1.length) : SI (mr4 S b R) c = SI S c := by rw [mr4, stp_o (by rw [mr3_l]; omega), mr3_o h]
theorem mr5_o {c : Nat} (h : c < 203 + S.1.length) : SI (mr5 S b R) c = SI S c := by rw [mr5, stp_o (by rw [mr4_l]; omega), mr4_o h]
theorem mrS_o {c : Nat} (h : c < 203 + S.1.length) : SI (mrS S b R) c = SI S c := by rw [mrS, stp_o (by rw [mr5_l]; omega), mr5_o h]
theorem mrS_L {c : Nat} (h : c < 203 + S.1.length) : SL (mrS S b R) c = SL S c := by
  rw [mrS, stp_L (by rw [mr5_l]; omega), mr5, stp_L (by rw [mr4_l]; omega), mr4, stp_L (by rw [mr3_l]; omega), mr3, stp_L (by rw [mr2_l]; omega), mr2, stp_L (by rw [mr1_l]; omega), mr1, stp_L h]
theorem mr1_k {c : Nat} (h : c < 203 + S.1.length) : kd (mr1 S b R) c = kd S c := stp_ko h
theorem mr2_k {c : Nat} (h : c < 203 + S.1.length) : kd (mr2 S b R) c = kd S c := by rw [mr2, stp_ko (by rw [mr1_l]; omega), mr1_k h]
theorem mr3_k {c : Nat} (h : c < 203 + S.1.length) : kd (mr3 S b R) c = kd S c := by rw [mr3, stp_ko (by rw [mr2_l]; omega), mr2_k h]
theorem mr4_k {c : Nat} (h : c < 203 + S.1.length) : kd (mr4 S b R) c = kd S c := by rw [mr4, stp_ko (by rw [mr3_l]; omega), mr3_k h]
theorem mr5_k {c : Nat} (h : c < 203 + S.1.length) : kd (mr5 S b R) c = kd S c := by rw [mr5, stp_ko (by rw [mr4_l]; omega), mr4_k h]
theorem mrS_k {c : Nat} (h : c < 203 + S.1.length) : kd (mrS S b R) c = kd S c := by rw [mrS, stp_ko (by rw [mr5_l]; omega), mr5_k h]
theorem mrS_1 : (mrS S b R).1 = S.1 ++ [.inl (0, R * 2), .inl (0, R * 2), .inl (0, R * 2), .inl (0, R * 2), .inl (0, R * 2), .inl (0, R * 2 * 6)] := by
  rw [mrS, stp_1, mr5, stp_1, mr4, stp_1, mr3, stp_1, mr2, stp_1, mr1, stp_1]
  simp only [List.append_assoc, List.cons_append, List.nil_append]
theorem mrS_R {c g : Nat} (h : c ≠ 52) : SR (mrS S b R) c g = SR S c g := by
  rw [mrS, stp_R, if_neg (fun z => h z.1), mr5, stp_R, if_neg (fun z => h z.1), mr4, stp_R, if_neg (fun z => h z.1), mr3, stp_R, if_neg (fun z => h z.1), mr2, stp_R, if_neg (fun z => h z.1), mr1, stp_R, if_neg (fun z => h z.1)]
theorem mrS_n0 {k : Nat} (hb : b + 5 < 203 + S.1.length) : SI (mrS S b R) (203 + S.1.length) k = if k < R then SI S (b) k else 0 := by
  rw [mrS, stp_o (by rw [mr5_l]; omega), mr5, stp_o (by rw [mr4_l]; omega), mr4, stp_o (by rw [mr3_l]; omega), mr3, stp_o (by rw [mr2_l]; omega), mr2, stp_o (by rw [mr1_l]; omega)]
  rw [mr1, stp_n (by omega)]
theorem mrS_k0 : kd (mrS S b R) (203 + S.1.length) = some (.inl (0, R * 2)) := by
  rw [mrS, stp_ko (by rw [mr5_l]; omega), mr5, stp_ko (by rw [mr4_l]; omega), mr4, stp_ko (by rw [mr3_l]; omega), mr3, stp_ko (by rw [mr2_l]; omega), mr2, stp_ko (by rw [mr1_l]; omega)]
  exact stp_kn (by omega)
theorem mrS_r0 : SR (mrS S b R) 52 6 = 203 + S.1.length := by
  rw [mrS, stp_R, if_neg (by omega), mr5, stp_R, if_neg (by omega), mr4, stp_R, if_neg (by omega), mr3, stp_R, if_neg (by omega), mr2, stp_R, if_neg (by omega)]
  rw [mr1, stp_R, if_pos ⟨rfl, rfl⟩]
theorem mrS_n1 {k : Nat} (hb : b + 5 < 203 + S.1.length) : SI (mrS S b R) (203 + S.1.length + 1) k = if k < R then SI S (b + 1) k else 0 := by
  rw [mrS, stp_o (by rw [mr5_l]; omega), mr5, stp_o (by rw [mr4_l]; omega), mr4, stp_o (by rw [mr3_l]; omega), mr3, stp_o (by rw [mr2_l]; omega)]
  rw [mr2, stp_n (by rw [mr1_l]; omega), mr1_o (by omega)]
theorem mrS_k1 : kd (mrS S b R) (203 + S.1.length + 1) = some (.inl (0, R * 2)) := by
  rw [mrS, stp_ko (by rw [mr5_l]; omega), mr5, stp_ko (by rw [mr4_l]; omega), mr4, stp_ko (by rw [mr3_l]; omega), mr3, stp_ko (by rw [mr2_l]; omega)]
  exact stp_kn (by rw [mr1_l]; omega)
theorem mrS_r1 : SR (mrS S b R) 52 7 = 203 + S.1.length + 1 := by
  rw [mrS, stp_R, if_neg (by omega), mr5, stp_R, if_neg (by omega), mr4, stp_R, if_neg (by omega), mr3, stp_R, if_neg (by omega)]
  rw [mr2, stp_R, if_pos ⟨rfl, rfl⟩, mr1_l, Nat.add_assoc]
theorem mrS_n2 {k : Nat} (hb : b + 5 < 203 + S.1.length) : SI (mrS S b R) (203 + S.1.length + 2) k = if k < R then SI S (b + 2) k else 0 := by
  rw [mrS, stp_o (by rw [mr5_l]; omega), mr5, stp_o (by rw [mr4_l]; omega), mr4, stp_o (by rw [mr3_l]; omega)]
  rw [mr3, stp_n (by rw [mr2_l]; omega), mr2_o (by omega)]
theorem mrS_k2 : kd (mrS S b R) (203 + S.1.length + 2) = some (.inl (0, R * 2)) := by
  rw [mrS, stp_ko (by rw [mr5_l]; omega), mr5, stp_ko (by rw [mr4_l]; omega), mr4, stp_ko (by rw [mr3_l]; omega)]
  exact stp_kn (by rw [mr2_l]; omega)
theorem mrS_r2 : SR (mrS S b R) 52 8 = 203 + S.1.length + 2 := by
  rw [mrS, stp_R, if_neg (by omega), mr5, stp_R, if_neg (by omega), mr4, stp_R, if_neg (by omega)]
  rw [mr3, stp_R, if_pos ⟨rfl, rfl⟩, mr2_l, Nat.add_assoc]
theorem mrS_n3 {k : Nat} (hb : b + 5 < 203 + S.1.length) : SI (mrS S b R) (203 + S.1.length + 3) k = if k < R then SI S (b + 3) k else 0 := by
  rw [mrS, stp_o (by rw [mr5_l]; omega), mr5, stp_o (by rw [mr4_l]; omega)]
  rw [mr4, stp_n (by rw [mr3_l]; omega), mr3_o (by omega)]
theorem mrS_k3 : kd (mrS S b R) (203 + S.1.length + 3) = some (.inl (0, R * 2)) := by
  rw [mrS, stp_ko (by rw [mr5_l]; omega), mr5, stp_ko (by rw [mr4_l]; omega)]
  exact stp_kn (by rw [mr3_l]; omega)
theorem mrS_r3 : SR (mrS S b R) 52 9 = 203 + S.1.length + 3 := by
  rw [mrS, stp_R, if_neg (by omega), mr5, stp_R, if_neg (by omega)]
  rw [mr4, stp_R, if_pos ⟨rfl, rfl⟩, mr3_l, Nat.add_assoc]
theorem mrS_n4 {k : Nat} (hb : b + 5 < 203 + S.1.length) : SI (mrS S b R) (203 + S.1.length + 4) k = if k < R then SI S (b + 4) k else 0 := by
  rw [mrS, stp_o (by rw [mr5_l]; omega)]
  rw [mr5, stp_n (by rw [mr4_l]; omega), mr4_o (by omega)]
theorem mrS_k4 : kd (mrS S b R) (203 + S.1.length + 4) = some (.inl (0, R * 2)) := by
  rw [mrS, stp_ko (by rw [mr5_l]; omega)]
  exact stp_kn (by rw [mr4_l]; omega)
theorem mrS_r4 : SR (mrS S b R) 52 10 = 203 + S.1.length + 4 := by
  rw [mrS, stp_R, if_neg (by omega)]
  rw [mr5, stp_R, if_pos ⟨rfl, rfl⟩, mr4_l, Nat.add_assoc]
theorem mrS_n5 {k : Nat} (hb : b + 5 < 203 + S.1.length) : SI (mrS S b R) (203 + S.1.length + 5) k = if k < 6 * R then SI S (b + 5) k else 0 := by
  
  rw [mrS, stp_n (by rw [mr5_l]; omega), mr5_o (by omega)]
theorem mrS_k5 : kd (mrS S b R) (203 + S.1.length + 5) = some (.inl (0, R * 2 * 6)) := by
  
  exact stp_kn (by rw [mr5_l]; omega)
theorem mrS_r5 : SR (mrS S b R) 52 11 = 203 + S.1.length + 5 := by
  
  rw [mrS, stp_R, if_pos ⟨rfl, rfl⟩, mr5_l, Nat.add_assoc]
theorem c_makeRoom_n {L : Nat} (hA : dA S b R) (hL : SI S 52 12 = (L : Nat)) (hr : L + 8 ≤ R) : sM X 2 32 [.ref 52] S (sV none S) := by
  have hb58 := hA.1
  have hR1 := hA.2.1
  have hR2 := hA.2.2.1
  refine sIni (ls := [some (.ref 52), none]) rfl ?_
  refine sL (pc' := 1) (i := .aload_n 0) rfl rfl ?_
  refine sGr (p := 4) rfl rfl (sk_52 _) rfl rfl rfl hA.2.2.2.1 ?_
  refine sLn (p := 5) rfl rfl hA.2.2.2.2.2.2.2.2.2.1 (by decide) ?_
  refine sL (pc' := 6) (i := .istore_n 1) (ls' := [some (.ref 52), some (.int (iI ((R : Nat) : Int)))]) rfl rfl ?_
  refine sL (pc' := 7) (i := .iload_n 1) rfl rfl ?_
  refine sKi (p := 8) rfl rfl ?_
  refine sSb (p := 9) rfl rfl ?_
  refine sL (pc' := 10) (i := .aload_n 0) rfl rfl ?_
  refine sGi (p := 13) rfl rfl (sk_52 _) rfl rfl rfl hL ?_
  refine sSb (p := 14) rfl rfl ?_
  refine sKb (p := 16) rfl rfl ?_
  refine sIc_lt (p := 19) rfl rfl ⟨by omega, by omega⟩ ⟨by omega, by omega⟩ (fun c1 => ?_) (fun c1 => ?_)
  · exfalso; omega
  · have c1 := c1
    refine sEn (i := .return_) rfl (rfl) ?_
    exact ⟨rfl, rfl⟩
theorem c_makeRoom_g {L : Nat} (hA : dA S b R) (hL : SI S 52 12 = (L : Nat)) (hr : R < L + 8) (hL2 : L ≤ 65528) : sM X 2 32 [.ref 52] S (sV none (mrS S b R)) := by
  have hb58 := hA.1
  have hR1 := hA.2.1
  have hR2 := hA.2.2.1
  refine sIni (ls := [some (.ref 52), none]) rfl ?_
  refine sL (pc' := 1) (i := .aload_n 0) rfl rfl ?_
  refine sGr (p := 4) rfl rfl (sk_52 _) rfl rfl rfl hA.2.2.2.1 ?_
  refine sLn (p := 5) rfl rfl hA.2.2.2.2.2.2.2.2.2.1 (by decide) ?_
  refine sL (pc' := 6) (i := .istore_n 1) (ls' := [some (.ref 52), some (.int (iI ((R : Nat) : Int)))]) rfl rfl ?_
  refine sL (pc' := 7) (i := .iload_n 1) rfl rfl ?_
  refine sKi (p := 8) rfl rfl ?_
  refine sSb (p := 9) rfl rfl ?_
  refine sL (pc' := 10) (i := .aload_n 0) rfl rfl ?_
  refine sGi (p := 13) rfl rfl (sk_52 _) rfl rfl rfl hL ?_
  refine sSb (p := 14) rfl rfl ?_
  refine sKb (p := 16) rfl rfl ?_
  refine sIc_lt (p := 19) rfl rfl ⟨by omega, by omega⟩ ⟨by omega, by omega⟩ (fun c1 => ?_) (fun c1 => ?_)
  · have c1 := c1
    refine sL (pc' := 21) (i := .aload_n 0) rfl rfl ?_
    refine sL (pc' := 22) (i := .aload_n 0) rfl rfl ?_
    refine sGr (p := 25) rfl rfl (sk_52 _) rfl rfl rfl hA.2.2.2.1 ?_
    refine sL (pc' := 26) (i := .iload_n 1) rfl rfl ?_
    refine sKi (p := 27) rfl rfl ?_
    refine sMu (p := 28) rfl rfl ?_
    rw [show ((((R : Nat) : Int) * 2)) = (((R * 2 : Nat) : Int)) from by omega]
    refine sCs (p := 31) (as := [_, _]) rfl rfl rfl rfl (by decide) (Nat.le_of_ble_eq_true rfl) rfl (Nat.le_of_ble_eq_true rfl) rfl (by omega) (c_copyOf (S := S) (N := R) (m := R * 2) hA.2.2.2.2.2.2.2.2.2.1 ⟨by omega, by omega⟩) ?_
    refine sPr (p := 34) rfl rfl (sk_52 _) rfl rfl rfl (fun _ => rfl) ?_
    refine sL (pc' := 35) (i := .aload_n 0) rfl rfl ?_
    refine sL (pc' := 36) (i := .aload_n 0) rfl rfl ?_
    refine sGr (p := 39) rfl rfl (sk_52 _) rfl rfl rfl (show SR (mr1 S b R) 52 7 = b + 1 from by rw [mr1, stp_R, if_neg (by omega)]; exact hA.2.2.2.2.1) ?_
    refine sL (pc' := 40) (i := .iload_n 1) rfl rfl ?_
    refine sKi (p := 41) rfl rfl ?_
    refine sMu (p := 42) rfl rfl ?_
    rw [show ((((R : Nat) : Int) * 2)) = (((R * 2 : Nat) : Int)) from by omega]
    refine sCs (p := 45) (as := [_, _]) rfl rfl rfl rfl (by decide) (Nat.le_of_ble_eq_true rfl) rfl (Nat.le_of_ble_eq_true rfl) rfl (by omega) (c_copyOf (S := mr1 S b R) (N := R) (m := R * 2) ((mr1_k (kd_len (hA.2.2.2.2.2.2.2.2.2.2.1))).trans hA.2.2.2.2.2.2.2.2.2.2.1) ⟨by omega, by omega⟩) ?_
    refine sPr (p := 48) rfl rfl (sk_52 _) rfl rfl rfl (fun _ => rfl) ?_
    refine sL (pc' := 49) (i := .aload_n 0) rfl rfl ?_
    refine sL (pc' := 50) (i := .aload_n 0) rfl rfl ?_
    refine sGr (p := 53) rfl rfl (sk_52 _) rfl rfl rfl (show SR (mr2 S b R) 52 8 = b + 2 from by rw [mr2, stp_R, if_neg (by omega), mr1, stp_R, if_neg (by omega)]; exact hA.2.2.2.2.2.1) ?_
    refine sL (pc' := 54) (i := .iload_n 1) rfl rfl ?_
    refine sKi (p := 55) rfl rfl ?_
    refine sMu (p := 56) rfl rfl ?_
    rw [show ((((R : Nat) : Int) * 2)) = (((R * 2 : Nat) : Int)) from by omega]
    refine sCs (p := 59) (as := [_, _]) rfl rfl rfl rfl (by decide) (Nat.le_of_ble_eq_true rfl) rfl (Nat.le_of_ble_eq_true rfl) rfl (by omega) (c_copyOf (S := mr2 S b R) (N := R) (m := R * 2) ((mr2_k (kd_len (hA.2.2.2.2.2.2.2.2.2.2.2.1))).trans hA.2.2.2.2.2.2.2.2.2.2.2.1) ⟨by omega, by omega⟩) ?_
    refine sPr (p := 62) rfl rfl (sk_52 _) rfl rfl rfl (fun _ => rfl) ?_
    refine sL (pc' := 63) (i := .aload_n 0) rfl rfl ?_
    refine sL (pc' := 64) (i := .aload_n 0) rfl rfl ?_
    refine sGr (p := 67) rfl rfl (sk_52 _) rfl rfl rfl (show SR (mr3 S b R) 52 9 = b + 3 from by rw [mr3, stp_R, if_neg (by omega), mr2, stp_R, if_neg (by omega), mr1, stp_R, if_neg (by omega)]; exact hA.2.2.2.2.2.2.1) ?_
    refine sL (pc' := 68) (i := .iload_n 1) rfl rfl ?_
    refine sKi (p := 69) rfl rfl ?_
    refine sMu (p := 70) rfl rfl ?_
    rw [show ((((R : Nat) : Int) * 2)) = (((R * 2 : Nat) : Int)) from by omega]
    refine sCs (p := 73) (as := [_, _]) rfl rfl rfl rfl (by decide) (Nat.le_of_ble_eq_true rfl) rfl (Nat.le_of_ble_eq_true rfl) rfl (by omega) (c_copyOf (S := mr3 S b R) (N := R) (m := R * 2) ((mr3_k (kd_len (hA.2.2.2.2.2.2.2.2.2.2.2.2.1))).trans hA.2.2.2.2.2.2.2.2.2.2.2.2.1) ⟨by omega, by omega⟩) ?_
    refine sPr (p := 76) rfl rfl (sk_52 _) rfl rfl rfl (fun _ => rfl) ?_
    refine sL (pc' := 77) (i := .aload_n 0) rfl rfl ?_
    refine sL (pc' := 78) (i := .aload_n 0) rfl rfl ?_
    refine sGr (p := 81) rfl rfl (sk_52 _) rfl rfl rfl (show SR (mr4 S b R) 52 10 = b + 4 from by rw [mr4, stp_R, if_neg (by omega), mr3, stp_R, if_neg (by omega), mr2, stp_R, if_neg (by omega), mr1, stp_R, if_neg (by omega)]; exact hA.2.2.2.2.2.2.2.1) ?_
    refine sL (pc' := 82) (i := .iload_n 1) rfl rfl ?_
    refine sKi (p := 83) rfl rfl ?_
    refine sMu (p := 84) rfl rfl ?_
    rw [show ((((R : Nat) : Int) * 2)) = (((R * 2 : Nat) : Int)) from by omega]
    refine sCs (p := 87) (as := [_, _]) rfl rfl rfl rfl (by decide) (Nat.le_of_ble_eq_true rfl) rfl (Nat.le_of_ble_eq_true rfl) rfl (by omega) (c_copyOf (S := mr4 S b R) (N := R) (m := R * 2) ((mr4_k (kd_len (hA.2.2.2.2.2.2.2.2.2.2.2.2.2.1))).trans hA.2.2.2.2.2.2.2.2.2.2.2.2.2.1) ⟨by omega, by omega⟩) ?_
    refine sPr (p := 90) rfl rfl (sk_52 _) rfl rfl rfl (fun _ => rfl) ?_
    refine sL (pc' := 91) (i := .aload_n 0) rfl rfl ?_
    refine sL (pc' := 92) (i := .aload_n 0) rfl rfl ?_
    refine sGr (p := 95) rfl rfl (sk_52 _) rfl rfl rfl (show SR (mr5 S b R) 52 11 = b + 5 from by rw [mr5, stp_R, if_neg (by omega), mr4, stp_R, if_neg (by omega), mr3, stp_R, if_neg (by omega), mr2, stp_R, if_neg (by omega), mr1, stp_R, if_neg (by omega)]; exact hA.2.2.2.2.2.2.2.2.1) ?_
    refine sL (pc' := 96) (i := .iload_n 1) rfl rfl ?_
    refine sKi (p := 97) rfl rfl ?_
    refine sMu (p := 98) rfl rfl ?_
    rw [show ((((R : Nat) : Int) * 2)) = (((R * 2 : Nat) : Int)) from by omega]
    refine sKb (p := 100) rfl rfl ?_
    refine sMu (p := 101) rfl rfl ?_
    rw [show (((((R * 2 : Nat) : Int)) * 6)) = (((R * 2 * 6 : Nat) : Int)) from by omega]
    refine sCs (p := 104) (as := [_, _]) rfl rfl rfl rfl (by decide) (Nat.le_of_ble_eq_true rfl) rfl (Nat.le_of_ble_eq_true rfl) rfl (by omega) (c_copyOf (S := mr5 S b R) (N := 6 * R) (m := R * 2 * 6) ((mr5_k (kd_len (hA.2.2.2.2.2.2.2.2.2.2.2.2.2.2))).trans hA.2.2.2.2.2.2.2.2.2.2.2.2.2.2) ⟨by omega, by omega⟩) ?_
    refine sPr (p := 107) rfl rfl (sk_52 _) rfl rfl rfl (fun _ => rfl) ?_
    refine sEn (i := .return_) rfl (rfl) ?_
    exact ⟨rfl, rfl⟩
  · exfalso; omega
end DE
