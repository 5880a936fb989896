/-! ===== a variable more ===== -/
/-- a table with a variable more that does not matter -/
def xT (T0 T1 : Nat) (g : Nat → Bool) : Nat → Bool := fun r => decide (r < T1) && g (r % T0)
theorem pr_c {sz sz' : Nat → Nat} : ∀ {v : Nat}, (∀ i, i < v → sz' i = sz i) → pr sz' v = pr sz v
  | 0, _ => rfl
  | v + 1, h => by
    show pr sz' v * sz' v = pr sz v * sz v
    rw [pr_c (fun i hi => h i (by omega)), h v (by omega)]
section XV
variable {n x : Nat} {sz ord pl : Nat → Nat} {g h : Nat → Bool}
theorem px_le {v : Nat} (hv : v ≤ n) : pr (fup sz n x) v = pr sz v := pr_c (fun i hi => fup_ne (by omega))
theorem px_n : pr (fup sz n x) (n + 1) = pr sz n * x := by
  show pr (fup sz n x) n * fup sz n x n = _
  rw [px_le (Nat.le_refl n), fup_at]
theorem wf_x (hw : wf n sz) (hn : n < 10) (hx : 2 ≤ x ∧ x ≤ 6) (hT : pr sz n * x ≤ 1024) : wf (n + 1) (fup sz n x) := by
  refine ⟨by omega, fun i hi => ?_, by rw [px_n]; exact hT⟩
  by_cases c : i = n
  · rw [c, fup_at]
    exact hx
  · rw [fup_ne c]
    exact hw.2.1 i (by omega)
theorem val_x {r v : Nat} (hv : v < n) : val (fup sz n x) r v = val sz (r % pr sz n) v := by
  rw [val_mod hv]
  unfold val
  rw [px_le (by omega), fup_ne (by omega)]
theorem chg_x {r v k : Nat} (hw : wf n sz) (hw' : wf (n + 1) (fup sz n x)) (hv : v < n) (hk : k < sz v) (hr : r < pr sz n * x) : chg (fup sz n x) r v k % pr sz n = chg sz (r % pr sz n) v k := by
  have hp := hw.pos (Nat.le_refl n)
  have hk' : k < fup sz n x v := by rw [fup_ne (by omega)]; exact hk
  refine run_ext (n := n) (Nat.mod_lt _ hp) (chg_lt hw hv hk (Nat.mod_lt _ hp)) (fun u hu => ?_)
  rw [← val_x hu]
  by_cases c : u = v
  · rw [c, chg_at hw' (by omega) hk', chg_at hw hv hk]
  · rw [chg_ne hw' (by omega) hk' c, chg_ne hw hv hk c, val_x hu]
theorem chg_xn {r k : Nat} (hw : wf n sz) (hw' : wf (n + 1) (fup sz n x)) (hk : k < x) : chg (fup sz n x) r n k % pr sz n = r % pr sz n := by
  have hp := hw.pos (Nat.le_refl n)
  refine run_ext (n := n) (Nat.mod_lt _ hp) (Nat.mod_lt _ hp) (fun u hu => ?_)
  rw [← val_x (x := x) hu, ← val_x (x := x) hu, chg_ne hw' (by omega) (by rw [fup_at]; exact hk) (by omega)]
theorem xT_tb : tbT (pr sz n * x) (xT (pr sz n) (pr sz n * x) g) := fun r hr => by
  unfold xT
  rw [decide_eq_false (by omega)]
  rfl
theorem xT_at {r : Nat} (hr : r < pr sz n * x) : xT (pr sz n) (pr sz n * x) g r = g (r % pr sz n) := by
  unfold xT
  rw [decide_eq_true hr]
  rfl
theorem T_le (hw : wf n sz) (hx : 2 ≤ x) : pr sz n ≤ pr sz n * x := Nat.le_mul_of_pos_right _ (by omega)
theorem xT_inj (hw : wf n sz) (hx : 2 ≤ x) (tg : tbT (pr sz n) g) (th : tbT (pr sz n) h) (e : xT (pr sz n) (pr sz n * x) g = xT (pr sz n) (pr sz n * x) h) : g = h := tb_ext tg th (fun r hr => by
  have h1 := congrFun e r
  have h2 := T_le hw hx
  rw [xT_at (by omega), xT_at (by omega), Nat.mod_eq_of_lt hr] at h1
  exact h1)
theorem cof_x (hw : wf n sz) (hw' : wf (n + 1) (fup sz n x)) {v k : Nat} (hv : v < n) (hk : k < sz v) : cof (n + 1) (fup sz n x) (xT (pr sz n) (pr sz n * x) g) v k = xT (pr sz n) (pr sz n * x) (cof n sz g v k) := by
  have hp := hw.pos (Nat.le_refl n)
  refine tb_ext (T := pr sz n * x) (by rw [← px_n]; exact cof_tb _ _ _ _ _) xT_tb (fun r hr => ?_)
  have hr' : r < pr (fup sz n x) (n + 1) := by rw [px_n]; exact hr
  have hc := chg_lt hw' (show v < n + 1 by omega) (by rw [fup_ne (by omega)]; exact hk) hr'
  rw [px_n] at hc
  rw [cof_at hr', xT_at hc, xT_at hr, cof_at (Nat.mod_lt _ hp), chg_x hw hw' hv hk hr]
theorem dp_x (hw : wf n sz) (hw' : wf (n + 1) (fup sz n x)) (hx : 2 ≤ x) {v : Nat} (hv : v < n) : dpT (n + 1) (fup sz n x) (xT (pr sz n) (pr sz n * x) g) v = dpT n sz g v := by
  have hp := hw.pos (Nat.le_refl n)
  have hs := hw.2.1 v hv
  have hle := T_le hw hx
  cases hd : dpT n sz g v with
  | false =>
    refine dpT_of hw' (by omega) (fun r hr k hk => ?_)
    have hc := chg_lt hw' (show v < n + 1 by omega) hk hr
    rw [px_n] at hr hc
    rw [fup_ne (by omega)] at hk
    rw [xT_at hc, xT_at hr, chg_x hw hw' hv hk hr]
    exact dpT_chg hw hv hk hd (Nat.mod_lt _ hp)
  | true =>
    obtain ⟨r, h1, h2⟩ := dpT_iff.mp hd
    refine dpT_iff.mpr ⟨r, by rw [px_n]; omega, ?_⟩
    have hc := chg_lt hw' (r := r) (y := 0) (show v < n + 1 by omega) (by rw [fup_ne (by omega)]; omega) (by rw [px_n]; omega)
    rw [px_n] at hc
    rw [xT_at (by omega), xT_at hc, chg_x hw hw' hv (by omega) (by omega), Nat.mod_eq_of_lt h1]
    exact h2
theorem dp_xn (hw : wf n sz) (hw' : wf (n + 1) (fup sz n x)) : dpT (n + 1) (fup sz n x) (xT (pr sz n) (pr sz n * x) g) n = false := dpT_of hw' (by omega) (fun r hr k hk => by
  have hc := chg_lt hw' (show n < n + 1 by omega) hk hr
  rw [px_n] at hr hc
  rw [fup_at] at hk
  rw [xT_at hc, xT_at hr, chg_xn hw hw' hk])
theorem prm_x (ho : prm n ord pl) : prm (n + 1) (fup ord n n) (fup pl n n) := by
  refine ⟨fun p hp => ?_, fun v hv => ?_⟩
  · by_cases c : p = n
    · rw [c, fup_at, fup_at]
      omega
    · have h1 := ho.1 p (by omega)
      rw [fup_ne c, fup_ne (by omega)]
      exact ⟨by omega, h1.2⟩
  · by_cases c : v = n
    · rw [c, fup_at, fup_at]
      omega
    · have h1 := ho.2 v (by omega)
      rw [fup_ne c, fup_ne (by omega)]
      exact ⟨by omega, h1.2⟩
theorem fpl_x (hw : wf n sz) (hw' : wf (n + 1) (fup sz n x)) (hx : 2 ≤ x) (ho : prm n ord pl) (hf : fpl n sz ord g < n) : fpl (n + 1) (fup sz n x) (fup ord n n) (xT (pr sz n) (pr sz n * x) g) = fpl n sz ord g := fpl_eq (by omega) (by
  rw [fup_ne (by omega), dp_x hw hw' hx (ho.1 _ hf).1]
  exact fpl_dep hf) (fun q hq => by
  rw [fup_ne (by omega), dp_x hw hw' hx (ho.1 q (by omega)).1]
  exact fpl_no hq)
def xD (T0 T1 : Nat) (D : DT) : DT := (dl D, dv D, dk D, fun y => xT T0 T1 (ds D y))
theorem evr_x (hp : 0 < pr sz n) : xT (pr sz n) (pr sz n * x) (evr (pr sz n)) = evr (pr sz n * x) := funext fun r => by
  unfold xT evr
  rw [decide_eq_true (Nat.mod_lt _ hp), Bool.and_true]
theorem dR_x {S S' : ST} {b R U fn : Nat} {rt : Nat → Nat} {D : DT} {Fn : Nat → Nat → Bool} (hw : wf n sz) (hw' : wf (n + 1) (fup sz n x)) (hx : 2 ≤ x) (hR : dRF S b R n sz ord pl D U fn rt Fn) (h1 : S'.1 = S.1) (hSR : SR S' = SR S) (hI : ∀ c, c ≠ 53 → c ≠ 54 → 52 ≤ c → SI S' c = SI S c) (h53 : ∀ q, SI S' 53 q = if q = n then ((n : Nat) : Int) else SI S 53 q) (h54 : ∀ q, SI S' 54 q = if q = n then ((n : Nat) : Int) else SI S 54 q) : dRF S' b R (n + 1) (fup sz n x) (fup ord n n) (fup pl n n) (xD (pr sz n) (pr sz n * x) D) U fn rt (fun i => xT (pr sz n) (pr sz n * x) (Fn i)) := by
  obtain ⟨⟨⟨hA, hP, hM, ⟨ch, hC⟩, hF, hL, hU, hUR, hU2, hz⟩, hc, hu, hO, ho⟩, hrt, h40, htb⟩ := hR
  have hb := hA.1
  have hp := hw.pos (Nat.le_refl n)
  have hn10 := hw'.1
  obtain ⟨p1, p2, p3, p4, p5, p6, p7⟩ := hP
  have hsz : ∀ y, dl D y = true → fup sz n x (dv D y) = sz (dv D y) := fun y hy => fup_ne (by have := (p3 y hy).1; omega)
  have hedg : ∀ z, edg (fup sz n x) (xD (pr sz n) (pr sz n * x) D) U z = edg sz D U z := fun z => sumN_c (fun y _ => by
    show (if dl D y then cntB (fun k => decide (dk D y k = z)) (fup sz n x (dv D y)) else 0) = if dl D y then cntB (fun k => decide (dk D y k = z)) (sz (dv D y)) else 0
    cases hy : dl D y with
    | false => rfl
    | true => rw [hsz y hy])
  have htbs : ∀ y, dok D 0 y → tbT (pr sz n) (ds D y) := fun y hy => by
    rcases hy with q | q | q
    · have h0 : y = 0 ∨ y = 1 := by omega
      rcases h0 with h0 | h0
      · rw [h0, p5]
        exact fun _ _ => rfl
      · rw [h0, p6]
        exact fun r hr => decide_eq_false (by omega)
    · exact (p3 y q).2.1
    · rw [q, p5]
      exact fun _ _ => rfl
  have hdch : ∀ y, dl D y = true → dch (fup sz n x) (xD (pr sz n) (pr sz n * x) D) y = dch sz D y := fun y hy => by
    show dv D y * 64 + hcI (hsI (fun k => ((dk D y k : Nat) : Int)) (fup sz n x (dv D y))) = _
    rw [hsz y hy]
    rfl
  refine ⟨⟨⟨dA_cg h1 hSR hA, ⟨p1, p2, fun y hy => ?_, fun y hy k hk => ?_, ?_, ?_, fun y z hy hz' e => ?_⟩, ?_, ⟨fun c => if c < n * 64 then ch c else (0, fun _ => 0), ?_⟩, ?_, ?_, ?_, hUR, hU2, ?_⟩, fun y hy => ?_, fun y h2 hy => ?_, ⟨fun q hq => ?_, fun v hv => ?_⟩, prm_x ho⟩, fun f hf => ?_, h40, fun f hf => ?_⟩
  · have h2 := p3 y hy
    refine ⟨(show dv D y < n + 1 by omega), by rw [px_n]; exact xT_tb, ?_⟩
    show dpT (n + 1) (fup sz n x) (xT (pr sz n) (pr sz n * x) (ds D y)) (dv D y) = true
    rw [dp_x hw hw' hx h2.1]
    exact h2.2.2
  · have hk : k < fup sz n x (dv D y) := hk
    rw [hsz y hy] at hk
    have h2 := p4 y hy k hk
    refine ⟨h2.1, ?_⟩
    show xT (pr sz n) (pr sz n * x) (ds D (dk D y k)) = cof (n + 1) (fup sz n x) (xT (pr sz n) (pr sz n * x) (ds D y)) (dv D y) k
    rw [cof_x hw hw' (p3 y hy).1 hk, h2.2]
  · show xT (pr sz n) (pr sz n * x) (ds D 0) = _
    rw [p5]
    funext r
    exact Bool.and_false _
  · show xT (pr sz n) (pr sz n * x) (ds D 1) = _
    rw [p6, px_n]
    exact evr_x hp
  · exact p7 y z hy hz' (xT_inj hw hx (htbs y hy) (htbs z hz') e)
  · obtain ⟨m1, m2, m3, m4, m5, m6⟩ := hM
    refine ⟨?_, ?_, ?_, fun y hy k hk => ?_, fun y h2 hy => ?_, m6⟩
    · rw [hI b (by omega) (by omega) (by omega)]
      exact m1
    · rw [hI b (by omega) (by omega) (by omega)]
      exact m2
    · rw [hI b (by omega) (by omega) (by omega)]
      exact m3
    · have hk : k < fup sz n x (dv D y) := hk
      rw [hsz y hy] at hk
      rw [hI (b + 5) (by omega) (by omega) (by omega)]
      exact m4 y hy k hk
    · rw [hI (b + 1) (by omega) (by omega) (by omega), hedg]
      exact m5 y h2 hy
  · refine ⟨fun c hc9 => ?_, fun c h2 h3 => ?_⟩
    · rw [hI (b + 2) (by omega) (by omega) (by omega), hI 55 (by omega) (by omega) (by omega)]
      dsimp only
      by_cases cc : c < n * 64
      · rw [if_pos cc]
        refine ⟨(hC.1 c cc).1, fun y => ((hC.1 c cc).2 y).trans ⟨fun q => ⟨q.1, by rw [hdch y q.1]; exact q.2⟩, fun q => ⟨q.1, by rw [hdch y q.1] at q; exact q.2⟩⟩⟩
      · rw [if_neg cc]
        refine ⟨⟨hC.2 c (by omega) (by omega), fun i hi => absurd hi (Nat.not_lt_zero i), rfl, fun i j hi => absurd hi (Nat.not_lt_zero i)⟩, fun y => ⟨fun ⟨i, hi, _⟩ => absurd hi (Nat.not_lt_zero i), fun ⟨q1, q2⟩ => ?_⟩⟩
        have q1 : dl D y = true := q1
        rw [hdch y q1] at q2
        have h5 := (p3 y q1).1
        have h6 := hc_lt (hsI (fun k => ((dk D y k : Nat) : Int)) (sz (dv D y)))
        unfold dch at q2
        omega
    · rw [hI 55 (by omega) (by omega) (by omega)]
      exact hC.2 c (by omega) h3
  · unfold dF at *
    rw [hI (b + 2) (by omega) (by omega) (by omega), hI 52 (by omega) (by omega) (by omega)]
    exact hF
  · rw [hI 52 (by omega) (by omega) (by omega)]
    exact hL
  · rw [hI 52 (by omega) (by omega) (by omega)]
    exact hU
  · rw [hI (b + 3) (by omega) (by omega) (by omega)]
    exact hz
  · have h2 := p3 y hy
    have h3 : fpl n sz ord (ds D y) < n := fpl_lt hw ho h2.2.1 (lfv_no hw h2.2.1 h2.2.2 h2.1)
    show dv D y = fup ord n n (fpl (n + 1) (fup sz n x) (fup ord n n) (xT (pr sz n) (pr sz n * x) (ds D y)))
    rw [fpl_x hw hw' hx ho h3, fup_ne (by omega)]
    exact hc y hy
  · rw [hedg]
    exact hu y h2 hy
  · rw [h53]
    by_cases cq : q = n
    · rw [if_pos cq, cq, fup_at]
    · rw [if_neg cq, fup_ne cq]
      exact hO.1 q (by omega)
  · rw [h54]
    by_cases cq : v = n
    · rw [if_pos cq, cq, fup_at]
    · rw [if_neg cq, fup_ne cq]
      exact hO.2 v (by omega)
  · refine ⟨(hrt f hf).1, ?_⟩
    show xT (pr sz n) (pr sz n * x) (ds D (rt f)) = _
    rw [(hrt f hf).2]
  · rw [px_n]
    exact xT_tb
theorem spW_51 {S : ST} {Fn : Nat → Nat → Bool} {T0 T1 : Nat} : ∀ {i : Nat}, i ≤ 40 → rowS (spW S Fn T0 T1 i) 51 0 (evr T1)
  | 0, _ => rowS_wRw _ _ _ _
  | i + 1, h => rowS_ne (Or.inl (by omega)) (spW_51 (by omega))
theorem spW_9 {S : ST} {Fn : Nat → Nat → Bool} {T0 T1 j : Nat} : ∀ {i : Nat}, i ≤ 40 → j < i → rowS (spW S Fn T0 T1 i) (9 + j) 0 (xT T0 T1 (Fn j))
  | 0, _, hj => absurd hj (Nat.not_lt_zero j)
  | i + 1, h, hj => by
    by_cases c : j = i
    · rw [c]
      exact rowS_wRw _ _ _ _
    · exact rowS_ne (Or.inl (by omega)) (spW_9 (by omega) (by omega))
theorem spW_L {S : ST} {Fn : Nat → Nat → Bool} {T0 T1 c : Nat} (h51 : c ≠ 51) : ∀ {i : Nat}, (∀ j, j < i → c ≠ 9 + j) → SL (spW S Fn T0 T1 i) c = SL S c
  | 0, _ => SL_wRw_ne h51
  | i + 1, h => (SL_wRw_ne (h i (by omega))).trans (spW_L h51 (fun j hj => h j (by omega)))
theorem spW_1 {S : ST} {Fn : Nat → Nat → Bool} {T0 T1 : Nat} : ∀ {i : Nat}, (spW S Fn T0 T1 i).1 = S.1 ∧ SR (spW S Fn T0 T1 i) = SR S
  | 0 => ⟨rfl, rfl⟩
  | i + 1 => spW_1 (i := i)
end XV
section CV
variable {X : List Int32} {S : ST} {n fn Z : Nat} {sz ord : Nat → Nat} {wt : Nat → Int} {ro : Nat → Bool} {Fn : Nat → Nat → Bool} {nm : Nat → Int64} {sd : Option (Nat → Bool)} {tr tn : Int} {up lo : Int64}
theorem CI_choice {x : Nat} (h : CI S n sz wt ro fn Fn nm ord sd tr tn up lo Z) (hn : n < 10) (hx : 2 ≤ x ∧ x ≤ 6) (hT : pr sz n * x ≤ 1024) : CI (wI (wI (wI (spW (wI (wI (wI (wI (wI S 2 n ((x : Nat) : Int)) 3 n ((pr sz n : Nat) : Int)) 1 7 ((pr sz n * x : Nat) : Int)) 1 6 ((n + 1 : Nat) : Int)) 1 5 (bI false)) Fn (pr sz n) (pr sz n * x) fn) 53 n ((n : Nat) : Int)) 54 n ((n : Nat) : Int)) 0 6 (-1)) (n + 1) (fup sz n x) wt ro fn (fun i => xT (pr sz n) (pr sz n * x) (Fn i)) nm (fup ord n n) none tr tn up lo Z ∧ frX S (wI (wI (wI (spW (wI (wI (wI (wI (wI S 2 n ((x : Nat) : Int)) 3 n ((pr sz n : Nat) : Int)) 1 7 ((pr sz n * x : Nat) : Int)) 1 6 ((n + 1 : Nat) : Int)) 1 5 (bI false)) Fn (pr sz n) (pr sz n * x) fn) 53 n ((n : Nat) : Int)) 54 n ((n : Nat) : Int)) 0 6 (-1)) := by
  obtain ⟨⟨v1, v2, v3, v4, v5⟩, hwC, hgC, ⟨f1, f2, f3, f4, f5, f6, f7⟩, ⟨b, R, pl, D, U, rt, hR, hro, hsd, hz1, hz2⟩, t1, t2, t3, t4⟩ := h
  have hw' := wf_x v1 hn hx hT
  have hb := hR.1.1.1.1
  have hI : ∀ c, c ≠ 0 → c ≠ 1 → c ≠ 2 → c ≠ 3 → c ≠ 53 → c ≠ 54 → SI (wI (wI (wI (spW (wI (wI (wI (wI (wI S 2 n ((x : Nat) : Int)) 3 n ((pr sz n : Nat) : Int)) 1 7 ((pr sz n * x : Nat) : Int)) 1 6 ((n + 1 : Nat) : Int)) 1 5 (bI false)) Fn (pr sz n) (pr sz n * x) fn) 53 n ((n : Nat) : Int)) 54 n ((n : Nat) : Int)) 0 6 (-1)) c = SI S c := fun c h0 h1 h2 h3 h53 h54 => by
    refine (u2_ne h0).trans ((u2_ne h54).trans ((u2_ne h53).trans ?_))
    rw [SI_spW]
    exact (u2_ne h1).trans ((u2_ne h1).trans ((u2_ne h1).trans ((u2_ne h3).trans (u2_ne h2))))
  have hI0 : ∀ k, k ≠ 6 → SI (wI (wI (wI (spW (wI (wI (wI (wI (wI S 2 n ((x : Nat) : Int)) 3 n ((pr sz n : Nat) : Int)) 1 7 ((pr sz n * x : Nat) : Int)) 1 6 ((n + 1 : Nat) : Int)) 1 5 (bI false)) Fn (pr sz n) (pr sz n * x) fn) 53 n ((n : Nat) : Int)) 54 n ((n : Nat) : Int)) 0 6 (-1)) 0 k = SI S 0 k := fun k hk => by
    refine (rI_nj hk).trans ((rI_ne (by decide) _).trans ((rI_ne (by decide) _).trans ?_))
    rw [SI_spW]
    exact (rI_ne (by decide) _).trans ((rI_ne (by decide) _).trans ((rI_ne (by decide) _).trans ((rI_ne (by decide) _).trans (rI_ne (by decide) _))))
  have hL : ∀ c, c ≠ 51 → (c < 9 ∨ 49 ≤ c) → SL (wI (wI (wI (spW (wI (wI (wI (wI (wI S 2 n ((x : Nat) : Int)) 3 n ((pr sz n : Nat) : Int)) 1 7 ((pr sz n * x : Nat) : Int)) 1 6 ((n + 1 : Nat) : Int)) 1 5 (bI false)) Fn (pr sz n) (pr sz n * x) fn) 53 n ((n : Nat) : Int)) 54 n ((n : Nat) : Int)) 0 6 (-1)) c = SL S c := fun c h51 hc => by
    show SL (spW _ Fn (pr sz n) (pr sz n * x) fn) c = _
    rw [spW_L h51 (fun j hj => by omega)]
    rfl
  have e1 : ((wI (wI (wI (spW (wI (wI (wI (wI (wI S 2 n ((x : Nat) : Int)) 3 n ((pr sz n : Nat) : Int)) 1 7 ((pr sz n * x : Nat) : Int)) 1 6 ((n + 1 : Nat) : Int)) 1 5 (bI false)) Fn (pr sz n) (pr sz n * x) fn) 53 n ((n : Nat) : Int)) 54 n ((n : Nat) : Int)) 0 6 (-1))).1 = S.1 := (spW_1 (i := fn)).1
  have e2 : SR (wI (wI (wI (spW (wI (wI (wI (wI (wI S 2 n ((x : Nat) : Int)) 3 n ((pr sz n : Nat) : Int)) 1 7 ((pr sz n * x : Nat) : Int)) 1 6 ((n + 1 : Nat) : Int)) 1 5 (bI false)) Fn (pr sz n) (pr sz n * x) fn) 53 n ((n : Nat) : Int)) 54 n ((n : Nat) : Int)) 0 6 (-1)) = SR S := (spW_1 (i := fn)).2
  have h1x : ∀ k, SI (wI (wI (wI (spW (wI (wI (wI (wI (wI S 2 n ((x : Nat) : Int)) 3 n ((pr sz n : Nat) : Int)) 1 7 ((pr sz n * x : Nat) : Int)) 1 6 ((n + 1 : Nat) : Int)) 1 5 (bI false)) Fn (pr sz n) (pr sz n * x) fn) 53 n ((n : Nat) : Int)) 54 n ((n : Nat) : Int)) 0 6 (-1)) 1 k = SI (wI (wI (wI (wI (wI S 2 n ((x : Nat) : Int)) 3 n ((pr sz n : Nat) : Int)) 1 7 ((pr sz n * x : Nat) : Int)) 1 6 ((n + 1 : Nat) : Int)) 1 5 (bI false)) 1 k := fun k => by
    refine (rI_ne (by decide) _).trans ((rI_ne (by decide) _).trans ((rI_ne (by decide) _).trans ?_))
    rw [SI_spW]
  have h23 : ∀ c k, (c = 2 ∨ c = 3) → SI (wI (wI (wI (spW (wI (wI (wI (wI (wI S 2 n ((x : Nat) : Int)) 3 n ((pr sz n : Nat) : Int)) 1 7 ((pr sz n * x : Nat) : Int)) 1 6 ((n + 1 : Nat) : Int)) 1 5 (bI false)) Fn (pr sz n) (pr sz n * x) fn) 53 n ((n : Nat) : Int)) 54 n ((n : Nat) : Int)) 0 6 (-1)) c k = if k = n then (if c = 2 then ((x : Nat) : Int) else ((pr sz n : Nat) : Int)) else SI S c k := fun c k hc => by
    refine (rI_ne (by omega) _).trans ((rI_ne (by omega) _).trans ((rI_ne (by omega) _).trans ?_))
    rw [SI_spW, rI_ne (by omega), rI_ne (by omega), rI_ne (by omega)]
    rcases hc with hc | hc
    · rw [hc, rI_ne (by decide), if_pos rfl]
      by_cases ck : k = n
      · rw [if_pos ck, ck, rI_at]
      · rw [if_neg ck, rI_nj ck]
    · rw [hc, if_neg (show ¬ (3 : Nat) = 2 by decide)]
      by_cases ck : k = n
      · rw [if_pos ck, ck, rI_at]
      · rw [if_neg ck, rI_nj ck, rI_ne (by decide)]
  refine ⟨⟨⟨hw', ?_, ?_, fun k hk => ?_, fun k hk => ?_⟩, ?_, ⟨false, ?_, fun z => absurd z (by decide)⟩, ⟨?_, ?_, f3, fun i hi => ?_, ?_, fun i hi => ?_, fun i hi => by rw [px_n]; exact xT_tb⟩, ⟨b, R, fup pl n n, xD (pr sz n) (pr sz n * x) D, U, rt, dR_x v1 hw' hx.1 hR e1 e2 (fun c h53 h54 h52 => hI c (by omega) (by omega) (by omega) (by omega) h53 h54) (fun q => ?_) (fun q => ?_), fun i hi => ?_, Or.inl ⟨rfl, rI_at⟩, ?_, ?_⟩, ?_, ?_, ?_, ?_⟩, ⟨[], by rw [e1, List.append_nil]⟩, fun c h1 h2 => ⟨hI c (by omega) (by omega) (by omega) (by omega) (by omega) (by omega), hL c (by omega) (by omega), by rw [e2]⟩, fun c m hc => hI c (fun z => by rw [z, sk_0] at hc; cases hc) (fun z => by rw [z, sk_1] at hc; cases hc) (fun z => by rw [z, sk_2] at hc; cases hc) (fun z => by rw [z, sk_3] at hc; cases hc) (fun z => by rw [z, sk_53] at hc; cases hc) (fun z => by rw [z, sk_54] at hc; cases hc)⟩
  · rw [h1x, rI_nj (by decide), rI_at]
  · rw [h1x, rI_nj (by decide), rI_nj (by decide), rI_at, px_n]
  · rw [h23 2 k (Or.inl rfl)]
    by_cases ck : k = n
    · rw [if_pos ck, if_pos rfl, ck, fup_at]
    · rw [if_neg ck, fup_ne ck]
      exact v4 k (by omega)
  · rw [h23 3 k (Or.inr rfl)]
    by_cases ck : k = n
    · rw [if_pos ck, if_neg (by decide), ck, px_le (Nat.le_refl n)]
    · rw [if_neg ck, px_le (by omega)]
      exact v5 k (by omega)
  · unfold wC at *
    rw [hI 4 (by omega) (by omega) (by omega) (by omega) (by omega) (by omega), hI 5 (by omega) (by omega) (by omega) (by omega) (by omega) (by omega)]
    exact hwC
  · rw [h1x, rI_at]
  · rw [hI 7 (by omega) (by omega) (by omega) (by omega) (by omega) (by omega)]
    exact f1
  · rw [hI 7 (by omega) (by omega) (by omega) (by omega) (by omega) (by omega)]
    exact f2
  · exact spW_9 f3 hi
  · have := spW_51 (S := (wI (wI (wI (wI (wI S 2 n ((x : Nat) : Int)) 3 n ((pr sz n : Nat) : Int)) 1 7 ((pr sz n * x : Nat) : Int)) 1 6 ((n + 1 : Nat) : Int)) 1 5 (bI false))) (Fn := Fn) (T0 := pr sz n) (T1 := pr sz n * x) f3
    rw [px_n]
    exact this
  · rw [hL 49 (by omega) (by omega)]
    exact f6 i hi
  · refine (rI_ne (by decide) _).trans ((rI_ne (by decide) _).trans ?_)
    by_cases cq : q = n
    · rw [if_pos cq, cq, rI_at]
    · rw [if_neg cq, rI_nj cq, SI_spW]
      exact (rI_ne (by decide) _).trans ((rI_ne (by decide) _).trans ((rI_ne (by decide) _).trans ((rI_ne (by decide) _).trans (rI_ne (by decide) _))))
  · refine (rI_ne (by decide) _).trans ?_
    by_cases cq : q = n
    · rw [if_pos cq, cq, rI_at]
    · rw [if_neg cq, rI_nj cq, rI_ne (by decide), SI_spW]
      exact (rI_ne (by decide) _).trans ((rI_ne (by decide) _).trans ((rI_ne (by decide) _).trans ((rI_ne (by decide) _).trans (rI_ne (by decide) _))))
  · rw [hI 50 (by omega) (by omega) (by omega) (by omega) (by omega) (by omega)]
    exact hro i hi
  · unfold tz at *
    rw [e1]
    exact hz1
  · rw [e1]
    exact hz2
  · rw [hI0 7 (by decide)]
    exact t1
  · rw [hI0 8 (by decide)]
    exact t2
  · rw [hL 0 (by decide) (Or.inl (by decide))]
    exact t3
  · rw [hL 0 (by decide) (Or.inl (by decide))]
    exact t4
theorem k_Choice {y : Int} (h : CI S n sz wt ro fn Fn nm ord sd tr tn up lo Z) (hy : rg y) : sM X 16 120 [.ref 0, .int (iI y)] S (fnQ (okChoice n sz y) (rChoice n sz y) (fun S' => CI S' n sz wt ro fn Fn nm ord sd tr tn up lo Z) (fun S' => CI S' (n + 1) (fup sz n y.toNat) wt ro fn (fun i => xT (pr sz n) (pr sz n * y.toNat) (Fn i)) nm (fup ord n n) none tr tn up lo Z) S) := by
  have hCI := h
  obtain ⟨hvC, hwC, ⟨wb, hgC⟩, ⟨hfn, hdr, h40, hF, hev, hnm, htb⟩, _, _, _, _, _⟩ := h
  have hn := hvC.1.1
  have hT0 := hvC.1.2.2
  have y1 := hy.1
  have y2 := hy.2
  refine sIni (ls := [some (.ref 0), some (.int (iI y)), none, none]) rfl ?_
  refine sL (pc' := 1) (i := .iload_n 1) rfl rfl ?_
  refine sKi (p := 2) rfl rfl ?_
  refine sIc_lt (p := 5) rfl rfl ⟨by omega, by omega⟩ ⟨by omega, by omega⟩ (fun c1 => ?_) (fun c1 => ?_)
  · have c1 := c1
    refine sKb (p := 13) rfl rfl ?_
    refine sEn (i := .ireturn) rfl (rfl) ?_
    refine ⟨congrArg (fun z => some (Value.int (iI z))) ?_, fun z => absurd z.1 (by omega), fun _ => hCI, frX_refl _⟩
    unfold rChoice
    rw [if_pos (by omega)]
  · have c1 := c1
    refine sL (pc' := 6) (i := .iload_n 1) rfl rfl ?_
    refine sKb (p := 8) rfl rfl ?_
    refine sIc_le (p := 11) rfl rfl ⟨by omega, by omega⟩ ⟨by omega, by omega⟩ (fun c2 => ?_) (fun c2 => ?_)
    · have c2 := c2
      obtain ⟨x, rfl⟩ : ∃ x : Nat, y = (x : Int) := ⟨y.toNat, by omega⟩
      refine sL (pc' := 15) (i := .aload_n 0) rfl rfl ?_
      refine sGc (p := 18) rfl rfl (sk_0 _) rfl rfl rfl ?_
      refine sL (pc' := 19) (i := .iload_n 1) rfl rfl ?_
      refine sCv (p := 22) (as := [_]) rfl rfl rfl rfl (by decide) (Nat.le_of_ble_eq_true rfl) rfl (Nat.le_of_ble_eq_true rfl) (sk_1 _) rfl (by omega) (c_hasRoomFor hvC (x := ((x : Nat) : Int)) ⟨by omega, by omega⟩) ?_
      refine sBn (p := 25) rfl rfl (fun c3 => ?_) (fun c3 => ?_)
      · have c3 := c3
        have c3 := of_decide_eq_true c3
        have hTx : pr sz n * x ≤ 1024 := by have h9 := c3.2; rw [← Int.natCast_mul] at h9; omega
        refine sL (pc' := 29) (i := .aload_n 0) rfl rfl ?_
        refine sGc (p := 32) rfl rfl (sk_0 _) rfl rfl rfl ?_
        refine sGi (p := 35) rfl rfl (sk_1 _) rfl rfl rfl hvC.2.2.1 ?_
        refine sL (pc' := 36) (i := .istore_n 2) (ls' := [some (.ref 0), some (.int (iI ((x : Nat) : Int))), some (.int (iI ((pr sz n : Nat) : Int))), none]) rfl rfl ?_
        refine sL (pc' := 37) (i := .aload_n 0) rfl rfl ?_
        refine sGc (p := 40) rfl rfl (sk_0 _) rfl rfl rfl ?_
        refine sL (pc' := 41) (i := .iload_n 1) rfl rfl ?_
        refine sCv (p := 44) (as := [_]) rfl rfl rfl rfl (by decide) (Nat.le_of_ble_eq_true rfl) rfl (Nat.le_of_ble_eq_true rfl) (sk_1 _) rfl (by omega) (c_add (x := x) hvC (by omega) (by omega)) ?_
        refine sL (pc' := 45) (i := .istore_n 3) (ls' := [some (.ref 0), some (.int (iI ((x : Nat) : Int))), some (.int (iI ((pr sz n : Nat) : Int))), some (.int (iI ((n : Nat) : Int)))]) rfl rfl ?_
        refine sL (pc' := 46) (i := .aload_n 0) rfl rfl ?_
        refine sGc (p := 49) rfl rfl (sk_0 _) rfl rfl rfl ?_
        refine sL (pc' := 50) (i := .iload_n 2) rfl rfl ?_
        refine sCv (p := 53) (as := [_]) rfl rfl rfl rfl (by decide) (Nat.le_of_ble_eq_true rfl) rfl (Nat.le_of_ble_eq_true rfl) (sk_7 _) rfl (by omega) (c_spread (S := (wI (wI (wI (wI (wI S 2 n ((x : Nat) : Int)) 3 n ((pr sz n : Nat) : Int)) 1 7 ((pr sz n * x : Nat) : Int)) 1 6 ((n + 1 : Nat) : Int)) 1 5 (bI false))) (T1 := pr sz n * x) ((rI_ne (by decide) _).trans ((rI_ne (by decide) _).trans ((rI_ne (by decide) _).trans ((rI_ne (by decide) _).trans ((rI_ne (by decide) _).trans hfn))))) h40 ((rI_nj (by decide)).trans ((rI_nj (by decide)).trans rI_at)) (hvC.1.pos (Nat.le_refl n)) (T_le hvC.1 (by omega)) hTx hev hF htb) ?_
        refine sL (pc' := 54) (i := .aload_n 0) rfl rfl ?_
        refine sGc (p := 57) rfl rfl (sk_0 _) rfl rfl rfl ?_
        refine sL (pc' := 58) (i := .iload_n 3) rfl rfl ?_
        refine sCv (p := 61) (as := [_]) rfl rfl rfl rfl (by decide) (Nat.le_of_ble_eq_true rfl) rfl (Nat.le_of_ble_eq_true rfl) (sk_52 _) rfl (by omega) (c_append (by omega)) ?_
        refine sL (pc' := 62) (i := .aload_n 0) rfl rfl ?_
        refine sKi (p := 63) rfl rfl ?_
        refine sPi (z := (-1)) (p := 66) rfl rfl (sk_0 _) rfl rfl rfl rfl ?_
        refine sL (pc' := 67) (i := .iload_n 3) rfl rfl ?_
        refine sEn (i := .ireturn) rfl (rfl) ?_
        have hch := CI_choice (x := x) hCI (by omega) ⟨by omega, by omega⟩ hTx
        refine ⟨congrArg (fun z => some (Value.int (iI z))) ?_, fun _ => hch.1, fun z => absurd (⟨by omega, by omega, by rw [← Int.natCast_mul]; omega⟩ : okChoice n sz ((x : Nat) : Int)) z, hch.2⟩
        unfold rChoice
        rw [if_neg (by omega), if_neg (fun z => z ⟨by omega, by rw [← Int.natCast_mul]; omega⟩)]
      · have c3 := c3
        have c3 := of_decide_eq_false c3
        have hTx : ¬ (n < 10 ∧ ((pr sz n : Nat) : Int) * ((x : Nat) : Int) ≤ 1024) := c3
        refine sKb (p := 27) rfl rfl ?_
        refine sEn (i := .ireturn) rfl (rfl) ?_
        refine ⟨congrArg (fun z => some (Value.int (iI z))) ?_, fun z => absurd z.2 hTx, fun _ => hCI, frX_refl _⟩
        unfold rChoice
        rw [if_neg (by omega), if_pos hTx]
    · have c2 := c2
      refine sKb (p := 13) rfl rfl ?_
      refine sEn (i := .ireturn) rfl (rfl) ?_
      refine ⟨congrArg (fun z => some (Value.int (iI z))) ?_, fun z => absurd z.1 (by omega), fun _ => hCI, frX_refl _⟩
      unfold rChoice
      rw [if_pos (by omega)]
end CV
