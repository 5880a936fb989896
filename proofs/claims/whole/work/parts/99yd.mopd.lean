/-! ===== the reference's reading: operand, pushes ===== -/
def pshS (S : ST) (k : Nat) (x v : Int) : ST := wI (wI (wI S 193 k x) 194 k v) 179 33 (((k : Nat) : Int) + 1)
theorem frP_psh {S : ST} {k : Nat} {x v : Int} : frP S (pshS S k x v) := frP_trans (frP_trans (frP_a (Or.inl rfl)) (frP_a (Or.inr rfl))) (frP_w (Or.inr (Or.inl rfl)))
section MD
variable {X : List Int32} {S : ST} {y : Nat → Nat} {s i n : Nat} {sz : Nat → Nat} {W : List (Int × Int)} {V : List (Nat → Bool)}
theorem mS_psh {T : ST} {e : Int × Int} (h : mS n S W V) (hok : okE n e) (hl : W.length < 420) (h34 : SI T 179 34 = ((dpW (e :: W) : Nat) : Int)) (h30 : SI T 179 30 = SI S 179 30) (h3 : SI T 193 = SI S 193) (h4 : SI T 194 = SI S 194) (hL : SL T 192 = SL S 192) : mS n (pshS T W.length e.1 e.2) (e :: W) V := by
  refine ⟨⟨?_, ?_, ?_⟩, ⟨?_, ?_, wS_fr W (fun k hk => ⟨?_, ?_⟩) h.2.1⟩, pS_fr V (fun k _ => congrFun hL k) h.2.2.1, ⟨hok, h.2.2.2.1⟩, hl, h.2.2.2.2.2⟩
  · exact rI_at
  · exact (rI_nj (by decide)).trans ((rI_ne (by decide) _).trans ((rI_ne (by decide) _).trans (h30.trans h.1.2.1)))
  · exact (rI_nj (by decide)).trans ((rI_ne (by decide) _).trans ((rI_ne (by decide) _).trans h34))
  · exact (rI_ne (by decide) _).trans ((rI_ne (by decide) _).trans rI_at)
  · exact (rI_ne (by decide) _).trans rI_at
  · exact (rI_ne (by decide) _).trans ((rI_ne (by decide) _).trans ((rI_nj (by omega)).trans (congrFun h3 k)))
  · exact (rI_ne (by decide) _).trans ((rI_nj (by omega)).trans ((rI_ne (by decide) _).trans (congrFun h4 k)))
theorem mN_dead {j : Nat} (h : mN S y s j) (hk : tk y s j = 265) : mX S y s 1 (tA y s j) := by
  rcases h with ⟨q, _⟩ | ⟨_, q⟩
  · exact absurd hk q
  · exact q
theorem mN_alive {j : Nat} (h : mN S y s j) (hk : tk y s j ≠ 265) : mA S y s j := by
  rcases h with ⟨_, q⟩ | ⟨q, _⟩
  · exact q
  · exact absurd q hk
theorem nT_lt {j : Nat} (hj : j ≤ nT y s) (h1 : tk y s j ≠ 264) (h2 : tk y s j ≠ 265) : j < nT y s := by
  have hnT := nT_ok y s
  refine Classical.byContradiction fun c => ?_
  have h9 : j = nT y s := by omega
  rw [← h9] at hnT
  omega

theorem m_op_not (hv : vM S n sz) (h : mA S y s i) (q : tk y s i = 33) (hm : mS n S W V) (hl : W.length < 420) (hd : dpW W < 20) : sM X 3 208 [.ref 179] S (fun r S' => r = some (.int (iI (bI false))) ∧ frK S S' ∧ mN S' y s (i + 1) ∧ mS n S' ((300, 0) :: W) V) := by
  have h20 : dpW W ≤ 20 := by omega
  have hd : ¬ dpW W = 20 := by omega
  have hr0 := rc_b (k := tk y s i) (tK_lt _)
  have e1 : rc (tk y s i) = 33 := by rw [q]; rfl
  have hp : frP S (pshS (wI S 179 34 (((dpW W : Nat) : Int) + 1)) W.length 300 0) := frP_trans (frP_w (Or.inr (Or.inr rfl))) frP_psh
  have hm1 : mS n (pshS (wI S 179 34 (((dpW W : Nat) : Int) + 1)) W.length 300 0) ((300, 0) :: W) V := mS_psh (e := (300, 0)) hm (Or.inl rfl) hl (rI_at.trans ((show ((dpW ((300, 0) :: W) : Nat) : Int) = ((dpW W : Nat) : Int) + 1 from by show (((if (300 : Int) = 300 ∨ (300 : Int) = 303 ∨ (300 : Int) = 40 then 1 else 0) + dpW W : Nat) : Int) = _; rw [if_pos (by decide)]; omega)).symm) (rI_nj (by decide)) rfl rfl rfl
  refine sIni (ls := [some (.ref 179), none, none]) rfl ?_
  refine sL (pc' := 1) (i := .aload_n 0) rfl rfl ?_
  refine sGi (p := 4) rfl rfl (sk_179 _) rfl rfl rfl h.2.2.2.1 ?_
  refine sKb (p := 6) rfl rfl ?_
  refine sIc_ne (p := 9) rfl rfl ⟨by omega, by omega⟩ ⟨by omega, by omega⟩ (fun c1 => ?_) (fun c1 => ?_)
  · exfalso; omega
  · have c1 := c1
    refine sL (pc' := 10) (i := .aload_n 0) rfl rfl ?_
    refine sCv (p := 13) (as := []) rfl rfl rfl rfl (by decide) (Nat.le_of_ble_eq_true rfl) rfl (Nat.le_of_ble_eq_true rfl) (sk_179 _) rfl (by omega) (m_deeper (kz := 0) (st := tA y s i) (d := dpW W) hm.1.2.2 h20 h.2.2.2.2.1 h.2.1 ⟨by decide, by decide⟩) ?_
    rw [if_neg hd]
    refine sL (pc' := 14) (i := .aload_n 0) rfl rfl ?_
    refine sKs (p := 17) rfl rfl ?_
    refine sKi (p := 18) rfl rfl ?_
    refine sCv (p := 21) (as := [_, _]) rfl rfl rfl rfl (by decide) (Nat.le_of_ble_eq_true rfl) rfl (Nat.le_of_ble_eq_true rfl) (sk_179 _) rfl (by omega) (m_push (w := W.length) (x := 300) (v := 0) (((rI_nj (by decide)).trans hm.1.1)) (by omega)) ?_
    refine sL (pc' := 22) (i := .aload_n 0) rfl rfl ?_
    refine sCvQ (p := 25) (as := []) rfl rfl rfl rfl (by decide) (Nat.le_of_ble_eq_true rfl) rfl (Nat.le_of_ble_eq_true rfl) (sk_179 _) rfl (by omega) (m_nextA (mA_P h hp)) ?_
    rintro _ S' ⟨rfl, hf', hN'⟩
    refine sKi (p := 26) rfl rfl ?_
    refine sEn (i := .ireturn) rfl (rfl) ?_
    exact ⟨rfl, frK_trans (frK_P hp) (frK_J hf'), hN', mS_J hm1 hf'⟩
theorem m_op_not_d (hv : vM S n sz) (h : mA S y s i) (q : tk y s i = 33) (hm : mS n S W V) (hl : W.length < 420) (hd : dpW W = 20) : sM X 3 208 [.ref 179] S (fun r S' => r = some (.int (iI (bI false))) ∧ frK S S' ∧ mX S' y s 5 (tA y s i)) := by
  have h20 : dpW W ≤ 20 := by omega
  have hr0 := rc_b (k := tk y s i) (tK_lt _)
  have e1 : rc (tk y s i) = 33 := by rw [q]; rfl
  have hb := mX_bd (k := 5) (q := tA y s i) h.1 h.2.1 ⟨by decide, by decide⟩ rfl (tP_le (i + 1)) h.2.2.1
  have h33d : SI (wI (bdS S 0 5 ((tA y s i : Nat) : Int)) 179 34 (((dpW W : Nat) : Int) + 1)) 179 33 = ((W.length : Nat) : Int) := (rI_nj (by decide)).trans ((bdS_f (by decide)).trans hm.1.1)
  have hp : frP (bdS S 0 5 ((tA y s i : Nat) : Int)) (pshS (wI (bdS S 0 5 ((tA y s i : Nat) : Int)) 179 34 (((dpW W : Nat) : Int) + 1)) W.length 300 0) := frP_trans (frP_w (Or.inr (Or.inr rfl))) frP_psh
  refine sIni (ls := [some (.ref 179), none, none]) rfl ?_
  refine sL (pc' := 1) (i := .aload_n 0) rfl rfl ?_
  refine sGi (p := 4) rfl rfl (sk_179 _) rfl rfl rfl h.2.2.2.1 ?_
  refine sKb (p := 6) rfl rfl ?_
  refine sIc_ne (p := 9) rfl rfl ⟨by omega, by omega⟩ ⟨by omega, by omega⟩ (fun c1 => ?_) (fun c1 => ?_)
  · exfalso; omega
  · have c1 := c1
    refine sL (pc' := 10) (i := .aload_n 0) rfl rfl ?_
    refine sCv (p := 13) (as := []) rfl rfl rfl rfl (by decide) (Nat.le_of_ble_eq_true rfl) rfl (Nat.le_of_ble_eq_true rfl) (sk_179 _) rfl (by omega) (m_deeper (kz := 0) (st := tA y s i) (d := dpW W) hm.1.2.2 h20 h.2.2.2.2.1 h.2.1 ⟨by decide, by decide⟩) ?_
    rw [if_pos hd]
    refine sL (pc' := 14) (i := .aload_n 0) rfl rfl ?_
    refine sKs (p := 17) rfl rfl ?_
    refine sKi (p := 18) rfl rfl ?_
    refine sCv (p := 21) (as := [_, _]) rfl rfl rfl rfl (by decide) (Nat.le_of_ble_eq_true rfl) rfl (Nat.le_of_ble_eq_true rfl) (sk_179 _) rfl (by omega) (m_push (w := W.length) (x := 300) (v := 0) (h33d) (by omega)) ?_
    refine sL (pc' := 22) (i := .aload_n 0) rfl rfl ?_
    refine sCvQ (p := 25) (as := []) rfl rfl rfl rfl (by decide) (Nat.le_of_ble_eq_true rfl) rfl (Nat.le_of_ble_eq_true rfl) (sk_179 _) rfl (by omega) (m_nextX (mX_P hb.1 hp)) ?_
    rintro _ S' ⟨rfl, hf', hN'⟩
    refine sKi (p := 26) rfl rfl ?_
    refine sEn (i := .ireturn) rfl (rfl) ?_
    exact ⟨rfl, frK_trans (frK_J hb.2) (frK_trans (frK_P hp) (frK_J hf')), hN'⟩
theorem m_op_par (hv : vM S n sz) (h : mA S y s i) (q : tk y s i = 40) (hm : mS n S W V) (hl : W.length < 420) (hd : dpW W < 20) : sM X 3 208 [.ref 179] S (fun r S' => r = some (.int (iI (bI false))) ∧ frK S S' ∧ mN S' y s (i + 1) ∧ mS n S' ((40, 0) :: W) V) := by
  have h20 : dpW W ≤ 20 := by omega
  have hd : ¬ dpW W = 20 := by omega
  have hr0 := rc_b (k := tk y s i) (tK_lt _)
  have e1 : rc (tk y s i) = 40 := by rw [q]; rfl
  have hp : frP S (pshS (wI S 179 34 (((dpW W : Nat) : Int) + 1)) W.length 40 0) := frP_trans (frP_w (Or.inr (Or.inr rfl))) frP_psh
  have hm1 : mS n (pshS (wI S 179 34 (((dpW W : Nat) : Int) + 1)) W.length 40 0) ((40, 0) :: W) V := mS_psh (e := (40, 0)) hm (Or.inr (Or.inr (Or.inl rfl))) hl (rI_at.trans ((show ((dpW ((40, 0) :: W) : Nat) : Int) = ((dpW W : Nat) : Int) + 1 from by show (((if (40 : Int) = 300 ∨ (40 : Int) = 303 ∨ (40 : Int) = 40 then 1 else 0) + dpW W : Nat) : Int) = _; rw [if_pos (by decide)]; omega)).symm) (rI_nj (by decide)) rfl rfl rfl
  refine sIni (ls := [some (.ref 179), none, none]) rfl ?_
  refine sL (pc' := 1) (i := .aload_n 0) rfl rfl ?_
  refine sGi (p := 4) rfl rfl (sk_179 _) rfl rfl rfl h.2.2.2.1 ?_
  refine sKb (p := 6) rfl rfl ?_
  refine sIc_ne (p := 9) rfl rfl ⟨by omega, by omega⟩ ⟨by omega, by omega⟩ (fun c1 => ?_) (fun c1 => ?_)
  · have c1 := c1
    refine sL (pc' := 28) (i := .aload_n 0) rfl rfl ?_
    refine sGi (p := 31) rfl rfl (sk_179 _) rfl rfl rfl h.2.2.2.1 ?_
    refine sKb (p := 33) rfl rfl ?_
    refine sIc_ne (p := 36) rfl rfl ⟨by omega, by omega⟩ ⟨by omega, by omega⟩ (fun c2 => ?_) (fun c2 => ?_)
    · exfalso; omega
    · have c2 := c2
      refine sL (pc' := 37) (i := .aload_n 0) rfl rfl ?_
      refine sCv (p := 40) (as := []) rfl rfl rfl rfl (by decide) (Nat.le_of_ble_eq_true rfl) rfl (Nat.le_of_ble_eq_true rfl) (sk_179 _) rfl (by omega) (m_deeper (kz := 0) (st := tA y s i) (d := dpW W) hm.1.2.2 h20 h.2.2.2.2.1 h.2.1 ⟨by decide, by decide⟩) ?_
      rw [if_neg hd]
      refine sL (pc' := 41) (i := .aload_n 0) rfl rfl ?_
      refine sKb (p := 43) rfl rfl ?_
      refine sKi (p := 44) rfl rfl ?_
      refine sCv (p := 47) (as := [_, _]) rfl rfl rfl rfl (by decide) (Nat.le_of_ble_eq_true rfl) rfl (Nat.le_of_ble_eq_true rfl) (sk_179 _) rfl (by omega) (m_push (w := W.length) (x := 40) (v := 0) (((rI_nj (by decide)).trans hm.1.1)) (by omega)) ?_
      refine sL (pc' := 48) (i := .aload_n 0) rfl rfl ?_
      refine sCvQ (p := 51) (as := []) rfl rfl rfl rfl (by decide) (Nat.le_of_ble_eq_true rfl) rfl (Nat.le_of_ble_eq_true rfl) (sk_179 _) rfl (by omega) (m_nextA (mA_P h hp)) ?_
      rintro _ S' ⟨rfl, hf', hN'⟩
      refine sKi (p := 52) rfl rfl ?_
      refine sEn (i := .ireturn) rfl (rfl) ?_
      exact ⟨rfl, frK_trans (frK_P hp) (frK_J hf'), hN', mS_J hm1 hf'⟩
  · exfalso; omega
theorem m_op_par_d (hv : vM S n sz) (h : mA S y s i) (q : tk y s i = 40) (hm : mS n S W V) (hl : W.length < 420) (hd : dpW W = 20) : sM X 3 208 [.ref 179] S (fun r S' => r = some (.int (iI (bI false))) ∧ frK S S' ∧ mX S' y s 5 (tA y s i)) := by
  have h20 : dpW W ≤ 20 := by omega
  have hr0 := rc_b (k := tk y s i) (tK_lt _)
  have e1 : rc (tk y s i) = 40 := by rw [q]; rfl
  have hb := mX_bd (k := 5) (q := tA y s i) h.1 h.2.1 ⟨by decide, by decide⟩ rfl (tP_le (i + 1)) h.2.2.1
  have h33d : SI (wI (bdS S 0 5 ((tA y s i : Nat) : Int)) 179 34 (((dpW W : Nat) : Int) + 1)) 179 33 = ((W.length : Nat) : Int) := (rI_nj (by decide)).trans ((bdS_f (by decide)).trans hm.1.1)
  have hp : frP (bdS S 0 5 ((tA y s i : Nat) : Int)) (pshS (wI (bdS S 0 5 ((tA y s i : Nat) : Int)) 179 34 (((dpW W : Nat) : Int) + 1)) W.length 40 0) := frP_trans (frP_w (Or.inr (Or.inr rfl))) frP_psh
  refine sIni (ls := [some (.ref 179), none, none]) rfl ?_
  refine sL (pc' := 1) (i := .aload_n 0) rfl rfl ?_
  refine sGi (p := 4) rfl rfl (sk_179 _) rfl rfl rfl h.2.2.2.1 ?_
  refine sKb (p := 6) rfl rfl ?_
  refine sIc_ne (p := 9) rfl rfl ⟨by omega, by omega⟩ ⟨by omega, by omega⟩ (fun c1 => ?_) (fun c1 => ?_)
  · have c1 := c1
    refine sL (pc' := 28) (i := .aload_n 0) rfl rfl ?_
    refine sGi (p := 31) rfl rfl (sk_179 _) rfl rfl rfl h.2.2.2.1 ?_
    refine sKb (p := 33) rfl rfl ?_
    refine sIc_ne (p := 36) rfl rfl ⟨by omega, by omega⟩ ⟨by omega, by omega⟩ (fun c2 => ?_) (fun c2 => ?_)
    · exfalso; omega
    · have c2 := c2
      refine sL (pc' := 37) (i := .aload_n 0) rfl rfl ?_
      refine sCv (p := 40) (as := []) rfl rfl rfl rfl (by decide) (Nat.le_of_ble_eq_true rfl) rfl (Nat.le_of_ble_eq_true rfl) (sk_179 _) rfl (by omega) (m_deeper (kz := 0) (st := tA y s i) (d := dpW W) hm.1.2.2 h20 h.2.2.2.2.1 h.2.1 ⟨by decide, by decide⟩) ?_
      rw [if_pos hd]
      refine sL (pc' := 41) (i := .aload_n 0) rfl rfl ?_
      refine sKb (p := 43) rfl rfl ?_
      refine sKi (p := 44) rfl rfl ?_
      refine sCv (p := 47) (as := [_, _]) rfl rfl rfl rfl (by decide) (Nat.le_of_ble_eq_true rfl) rfl (Nat.le_of_ble_eq_true rfl) (sk_179 _) rfl (by omega) (m_push (w := W.length) (x := 40) (v := 0) (h33d) (by omega)) ?_
      refine sL (pc' := 48) (i := .aload_n 0) rfl rfl ?_
      refine sCvQ (p := 51) (as := []) rfl rfl rfl rfl (by decide) (Nat.le_of_ble_eq_true rfl) rfl (Nat.le_of_ble_eq_true rfl) (sk_179 _) rfl (by omega) (m_nextX (mX_P hb.1 hp)) ?_
      rintro _ S' ⟨rfl, hf', hN'⟩
      refine sKi (p := 52) rfl rfl ?_
      refine sEn (i := .ireturn) rfl (rfl) ?_
      exact ⟨rfl, frK_trans (frK_J hb.2) (frK_trans (frK_P hp) (frK_J hf')), hN'⟩
  · exfalso; omega
end MD
