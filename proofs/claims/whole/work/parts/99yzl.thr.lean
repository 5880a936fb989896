/-! ===== xr_: methods that throw, the law's helpers that catch, the law's calls of them ===== -/
section XR
variable {l : Launch} {X : List Int32} {D : va_G} {cs : Nat → ClassId} {b : xx_B}
def xr_Pc (D : va_G) (cs : Nat → ClassId) (b : xx_B) (ad : List Nat) (h : xx_H) (sz : Nat) (U : State) : Prop := xx_Pc D vwCl cs xt_Z xt_Nw b ad h sz U ∧ xr_E (va_A (xx_w b cs ad h) sz) U U.heap
theorem xr_isN : ∀ w ∈ xt_Nw, xx_isN w = true := fun w hw => List.all_eq_true.mp xk_gn w hw
theorem xr_blind {ad : List Nat} {h : xx_H} {sz : Nat} {av : List Value} : FrameBlind (va_Pc av (xr_Pc D cs b ad h sz)) := fun a U g mk q => by
  have h1 := xx_blind (D := D) (cl := vwCl) (cs := cs) (Z := xt_Z) (b := b) (as := ad) (h := h) (sz := sz) (av := av) xr_isN a U g mk ⟨q.1, q.2.1⟩
  exact ⟨h1.1, h1.2, xr_E.same (s := U) (U := U.calling g mk a) rfl q.2.2⟩
/-- what a callee is given -/
theorem xr_give {s : State} {H : Heap} {A : Nat → Prop} {locs : List Loc} {as : List Nat} {h : xx_H} {av : List Value} (hP : va_P D vwCl (xx_w b cs as h) H) (hD : va_D A (xx_w b cs as h)) (hS : va_S A s.heap H locs) (hA : ∀ q, s.heap.size ≤ q → A q) (hK : va_K D vwCl (xx_ty cs) s) (hZ : xx_ZE vwCl xt_Z b A s s.heap) (hE : xr_E A s s.heap) (hNw : ∀ w ∈ xt_Nw, va_Nw w s) : ∀ U : State, U.heap = H → s.WarmedH U.vm → va_Pc av (xr_Pc D cs b as h H.size) av.toArray U := fun U hU hW => by
  have hF : ∀ q, va_A (xx_w b cs as h) H.size q → A q := fun q hq => by
    rcases hq with ⟨k, e9, hq⟩ | hq
    · exact hD.2 k _ hq
    · exact hA q (Nat.le_trans hS.1 hq)
  refine ⟨rfl, ⟨by rw [hU], by rw [hU]; exact hP, hD.weaken (fun _ _ _ _ => trivial), va_K.moved hW.alike hK, ?_, fun w hw => xx_Nw_warm (xr_isN w hw) hW (hNw w hw)⟩, ?_⟩
  · rw [hU]
    exact xx_ZE.warm hW (xx_ZE.narrow hF (xx_ZE.kept (fun a h8 h9 => hS.2.1 a h8 h9) hZ))
  · rw [hU]
    exact xr_E.warm hW (xr_E.narrow hF (xr_E.kept (fun a h8 h9 => hS.2.1 a h8 h9) hE))
/-- what is so behind it -/
theorem xr_back {s st₀ t : State} {H : Heap} {A : Nat → Prop} {locs Lc : List Loc} {as : List Nat} {h : xx_H} (hD : va_D A (xx_w b cs as h)) (hS : va_S A s.heap H locs) (hA : ∀ q, s.heap.size ≤ q → A q) (h0 : st₀.heap = H) (hLc : ∀ q ∈ Lc, va_A (xx_w b cs as h) H.size q.base) (hF9 : va_F (va_A (xx_w b cs as h) H.size) st₀ t) :
    va_S A s.heap t.heap (locs ++ Lc) ∧ ∀ q, va_A (xx_w b cs as h) H.size q → A q := by
  have hF : ∀ q, va_A (xx_w b cs as h) H.size q → A q := fun q hq => by
    rcases hq with ⟨k, e9, hq⟩ | hq
    · exact hD.2 k _ hq
    · exact hA q (Nat.le_trans hS.1 hq)
  obtain ⟨hz, hk⟩ := hF9
  rw [h0] at hz hk
  refine ⟨⟨Nat.le_trans hS.1 hz, fun q h1 h2 => ?_, fun q hq => ?_⟩, hF⟩
  · rw [hk q (Nat.lt_of_lt_of_le h1 hS.1) (fun z => h2 (hF q z))]
    exact hS.2.1 q h1 h2
  · rcases List.mem_append.mp hq with z | z
    · exact hS.2.2 q z
    · exact hF _ (hLc q z)
/-- an E was thrown, and the world is h' -/
def xr_XC (D : va_G) (cs : Nat → ClassId) (b : xx_B) (ad : List Nat) (h : xx_H) (sz : Nat) (h' : xx_H) (E : String) : String → State → State → Prop := fun E' st t =>
  E' = E ∧ (∃ t9 : List Nat, (ad ++ t9).length = h'.length ∧ va_P D vwCl (xx_w b cs (ad ++ t9) h') t.heap ∧ va_D (va_A (xx_w b cs ad h) sz) (xx_w b cs (ad ++ t9) h')) ∧ va_F (va_A (xx_w b cs ad h) sz) st t
/-- a class's method that comes to its throw -/
theorem xr_thr {q n f d pcT ic ik is : Nat} {E text : String} {args : List Value} {ls' : xx_L} {h h' : xx_H} (hl0 : l.stackTraces = false) (hq5 : (xt_N q).1.cls = RX5) (hqn : (xt_N q).1.name ≠ "<init>")
    (hr : xx_steps (xt_P X) f n d q 0 (xx_ent ((xt_P X).1 q).2.1 args) [] h = some (pcT, ls', [], h')) (hd6 : 6 ≤ d) (hE : Bundle.fit E = true) (hin : ∀ w ∈ xr_w0 E ik ic, w ∈ xr_W) (hstr : ∀ {A : Nat → Prop} {U : State} {H : Heap}, xr_E A U H → ∃ a, vk_R RX5 is text a U)
    (d0 : decode (xt_N q).2 pcT = .ok (.new ik, 3)) (d3 : decode (xt_N q).2 (pcT + 3) = .ok (.dup, 1)) (d4 : decode (xt_N q).2 (pcT + 4) = .ok (.ldc is, 2)) (d6 : decode (xt_N q).2 (pcT + 6) = .ok (.invokespecial ic, 3)) (d9 : decode (xt_N q).2 (pcT + 9) = .ok (.athrow, 1))
    (ho : xx_okh h) (ha : ∀ w ∈ args, xx_okv h.length false w) (hfl : (xx_flat args).length ≤ ((xt_P X).1 q).2.1) (ad : List Nat) (hl : ad.length = h.length) (sz : Nat) :
    vx_Met l (xt_N q).1 (xx_ws xt_N (xt_P X) xt_T q) { frames := d, cells := h'.length - h.length + 1, slots := xx_sz h' - xx_sz h + 6, locals := d * 64 } (va_Pc (args.map (xx_v b ad)) (xr_Pc D cs b ad h sz)) (fun _ _ _ _ => False) (xr_XC D cs b ad h sz h' E) (h'.length - h.length + 1) (xx_sz h' - xx_sz h + 6) (va_A (xx_w b cs ad h) sz) := by
  refine vx_ofW (cc := (xt_N q).2) (maxL := ((xt_P X).1 q).2.1) (ret := ((xt_P X).1 q).2.2.2.1) (by rw [hq5]; decide +kernel) rfl ?_
  intro p e s mid args9 below meth c s₁ B hml hnt hv
  obtain ⟨rfl, ⟨hsz, hP, hD0, hK, hZ, hNw⟩, hE9⟩ := hv
  have hts := atoms_spec (ws := xx_ws xt_N (xt_P X) xt_T q) B.pre
  subst hsz
  obtain ⟨k1, k2, k3, k4, k5⟩ := xx_steps_kp (sc := false) hr ho (fun w hw => by cases hw) (fun w hw => ha w (xx_ent_mem hw))
  rw [lg_entry_eq]
  refine xx_steps_sound (sc := false) (A := va_A (xx_w b cs ad h) s.heap.size) (st := []) (xe_cls X) xk_G xr_isN (xe_row X) B.exec B.bytes hml (findClass_of_methodNamed B.named) (fun w hw => hts w (List.mem_cons_of_mem _ hw)) hNw hK (fun z => absurd z hqn) hZ (fun z => by cases z) (Nat.le_refl _) (Nat.le_refl _) (fun q h => Or.inr h) hr s.heap [] 0 0 _ ad ?_ ?_ hP hD0.self va_S.rf hl ho (fun w hw => by cases hw) (fun w hw => ha w (xx_ent_mem hw)) (xx_ent_has hfl) ?_
  · show 0 + h'.length ≤ (h'.length - h.length + 1) + h.length
    omega
  · show 0 + xx_sz h' ≤ (xx_sz h' - xx_sz h + 6) + xx_sz h
    omega
  · intro t H' locs' cells' slots' L' ec es hlt hP' hD' hS' hL'
    obtain ⟨sa, hsa⟩ := hstr hE9
    have hw9 : ∀ w ∈ xr_w0 E ik ic, w.before (args.map (xx_v b ad)).toArray s = true := fun w hw => va_Nw.use (xr_ot (hin w hw)).1 (hE9.2.2.2 w (hin w hw))
    have hgood : ∀ w ∈ xr_w0 E ik ic, vx_ot w = true := fun w hw => by
      unfold vx_ot
      rw [(xr_ot (hin w hw)).1]
      rfl
    have e9 : (((([] : List Value).map (xx_v b (ad ++ t))).map fun v => v.category).sum + (13 * (xr_N.length + 1) + 43)) = 82 := rfl
    refine vx_throwS (A := va_A (xx_w b cs ad h) s.heap.size) (names := xr_N) (own := RX5) (cls := E) (text := text) (sa := sa) (ik := ik) (is := is) (ic := ic) B.exec B.bytes hl0 (by rw [← hq5]; exact findClass_of_methodNamed B.named) hE (by decide +kernel)
      (hw9 _ List.mem_cons_self) (hw9 _ (List.mem_cons_of_mem _ List.mem_cons_self)) hsa (fun w hw => hw9 w (List.mem_cons_of_mem _ (List.mem_cons_of_mem _ hw))) hgood hE9.1 hE9.2.1 hS' (by rw [hml]; exact hL'.1) d0 d3 d4 d6 d9 (fun x hx => (hnt x hx).elim) ?_ ?_ ?_ ?_ B.notSynchronized
      (fun t9 hal hz hk => ⟨rfl, ⟨t, hlt, hP'.kept (fun k q hk9 => hk q.1 (va_at.lt (hP' k q hk9))), hD'⟩, ⟨Nat.le_trans hS'.1 hz, fun q h1 h2 => by rw [hk q (Nat.lt_of_lt_of_le h1 hS'.1)]; exact hS'.2.1 q h1 h2⟩⟩) hS'.2.2 ?_ ?_
    · show 2 + 3 < d
      omega
    · refine Nat.le_trans (Nat.le_of_eq e9) ?_
      show 82 ≤ d * 64
      omega
    · show cells' + 1 ≤ h'.length - h.length + 1
      omega
    · show slots' + 6 ≤ xx_sz h' - xx_sz h + 6
      omega
    · omega
    · omega
/-- a helper's words, and its contract: it hands r back and leaves h' -/
def xr_hw (X : List Int32) (hq : Nat) (hh : List (Nat × Nat × Nat × Nat)) : List Cond := Cond.codeWith (xt_N hq).1 (xt_N hq).2 ((xt_P X).1 hq).2.1 (some .int) hh :: xt_T
def xr_HM (l : Launch) (X : List Int32) (D : va_G) (cs : Nat → ClassId) (b : xx_B) (ad : List Nat) (h : xx_H) (sz hq : Nat) (hh : List (Nat × Nat × Nat × Nat)) (args : List Value) (r : Int32) (h' : xx_H) (mc ms d : Nat) : Prop :=
  vx_Met l (xt_N hq).1 (xr_hw X hq hh) { frames := d, cells := mc, slots := ms, locals := d * 64 } (va_Pc (args.map (xx_v b ad)) (xr_Pc D cs b ad h sz)) (xx_Qc D vwCl cs b ad h sz (some (.int r)) h') (fun _ _ _ => False) mc ms (va_A (xx_w b cs ad h) sz)
/-- a helper whose callee does not throw -/
theorem xr_hok {hq f d : Nat} {hh : List (Nat × Nat × Nat × Nat)} {args : List Value} {r : Int32} {h h' : xx_H} (hN : (xt_N hq).1.cls = RL) (hNn : (xt_N hq).1.name ≠ "<init>") (hret : ((xt_P X).1 hq).2.2.2.1 = some .int)
    (hr : xx_run (xt_P X) f d hq 0 (xx_ent ((xt_P X).1 hq).2.1 args) [] h = some (some (.int r), h')) (ho : xx_okh h) (ha : ∀ w ∈ args, xx_okv h.length false w) (hfl : (xx_flat args).length ≤ ((xt_P X).1 hq).2.1) (ad : List Nat) (hl : ad.length = h.length) (sz : Nat) :
    xr_HM l X D cs b ad h sz hq hh args r h' (h'.length - h.length) (xx_sz h' - xx_sz h) d := by
  refine vx_ofWH (cc := (xt_N hq).2) (maxL := ((xt_P X).1 hq).2.1) (ret := some .int) (hh := hh) (by rw [hN]; decide +kernel) rfl ?_
  intro p e s mid args9 below meth c s₁ B hml hv
  obtain ⟨rfl, ⟨hsz, hP, hD0, hK, hZ, hNw⟩, hE9⟩ := hv
  have hts := atoms_spec (ws := xr_hw X hq hh) B.pre
  have hlocks := B.notSynchronized
  subst hsz
  obtain ⟨k1, k2, k3, k4⟩ := xx_run_kp f d hq 0 _ [] h _ h' false hr ho (fun w hw => by cases hw) (fun w hw => ha w (xx_ent_mem hw))
  rw [lg_entry_eq]
  refine vx_ret ?_
  refine xx_main (l := l) (D := D) (cs := cs) (b := b) (xe_cls X) xk_G xr_isN (xe_row X) f d hq 0 _ [] h _ h' hr p e _ s mid _ below meth c s.heap [] 0 0 _ (va_A (xx_w b cs ad h) s.heap.size) _ false ad B.exec B.bytes hml (findClass_of_methodNamed B.named) (fun w hw => hts w (List.mem_cons_of_mem _ hw)) hNw hK (fun z => absurd z hNn) hZ (fun z => by cases z) (Nat.le_refl _) (Nat.le_refl _) ?_ ?_ hP hD0.self va_S.rf (fun q h => Or.inr h) hl ho (fun w hw => by cases hw) (fun w hw => ha w (xx_ent_mem hw)) (xx_ent_has hfl) ?_
  · show 0 + h'.length ≤ (h'.length - h.length) + h.length
    omega
  · show 0 + xx_sz h' ≤ (xx_sz h' - xx_sz h) + xx_sz h
    omega
  · intro t H' locs' cells' slots' pc' L' i ec es hlt hP' hD' hS' hd hend
    have ec' : cells' = h'.length - h.length := by omega
    have es' : slots' = xx_sz h' - xx_sz h := by omega
    subst ec'
    subst es'
    have hqq : ∀ u : State, u.heap = H' → s.WarmedH u.vm → xx_Qc D vwCl cs b ad h s.heap.size (some (.int r)) h' (args.map (xx_v b ad)).toArray s (.returned (some (.int r))) u := fun u hu _ => ⟨⟨t, rfl, hlt, by rw [hu]; exact hP', hD'⟩, hS'.F hu⟩
    rw [hret] at hend
    obtain ⟨-, ⟨x, ty, rfl, hx9, hret9, hfit⟩ | ⟨x, rfl, hx9, hret9⟩ | ⟨x, ty, rfl, hx9, hret9, hfit⟩ | ⟨rfl, hx9, hret9⟩⟩ := xx_end_inv hend
    · cases hx9
      exact W.zret B.exec B.bytes B.returns rfl hqq hS'.2.2 hd
    · cases hx9
    · cases hx9
    · cases hx9
/-- a helper whose callee throws: it catches that -/
theorem xr_hthr {hq q k pcC d d' n f i ln t0 s0 e0 h0 a mc ms : Nat} {E : String} {args as9 rest : List Value} {ls1 : xx_L} {h h' : xx_H} (hN : (xt_N hq).1.cls = RL) (hNn : (xt_N hq).1.name ≠ "<init>")
    (hr1 : xx_steps (xt_P X) f n d hq 0 (xx_ent ((xt_P X).1 hq).2.1 args) [] h = some (pcC, ls1, as9.reverse ++ .ref a :: rest, h)) (he : ((xt_P X).1 hq).1 pcC = some (.invokevirtual k, 3, q, false)) (hq10 : 10 ≤ q) (e2 : ((xt_P X).1 q).2.2.1 = as9.length + 1) (e8 : (rest.map Value.category).sum ≤ 8) {cc9 : Nat} {fs9 : List Value} (hg9 : h[a]? = some (.inr (cc9, fs9))) (hst1 : ((xt_P X).1 q).2.2.2.2 = cc9 + 1)
    (hM : ∀ (ad : List Nat) (sz : Nat), ad.length = h.length → vx_Met l (xt_N q).1 (xx_ws xt_N (xt_P X) xt_T q) { frames := d', cells := mc, slots := ms, locals := d' * 64 } (va_Pc ((.ref a :: as9).map (xx_v b ad)) (xr_Pc D cs b ad h sz)) (fun _ _ _ _ => False) (xr_XC D cs b ad h sz h' E) mc ms (va_A (xx_w b cs ad h) sz)) (hdd : d' + 1 ≤ d)
    (hcov : s0 ≤ pcC ∧ pcC < e0) (ht0 : t0 ≠ 0) (hln : Cond.classLink RL t0 E ∈ xr_W) (hca : Cond.castable E E ∈ xr_W) (hi : i < ((xt_P X).1 hq).2.1)
    (hast : (decode (xt_N hq).2 h0 = .ok (.astore i, 2) ∧ ln = 2) ∨ ∃ kf : Fin 4, decode (xt_N hq).2 h0 = .ok (.astore_n kf, 1) ∧ (kf : Nat) = i ∧ ln = 1) (hic : decode (xt_N hq).2 (h0 + ln) = .ok (.iconst 1, 1)) (hir : decode (xt_N hq).2 (h0 + ln + 1) = .ok (.ireturn, 1))
    (ho : xx_okh h) (ha : ∀ w ∈ args, xx_okv h.length false w) (hfl : (xx_flat args).length ≤ ((xt_P X).1 hq).2.1) (ad : List Nat) (hl : ad.length = h.length) (sz : Nat) :
    xr_HM l X D cs b ad h sz hq [(s0, e0, h0, t0)] args (iI 1) h' mc ms d := by
  refine vx_ofWH (cc := (xt_N hq).2) (maxL := ((xt_P X).1 hq).2.1) (ret := some .int) (hh := [(s0, e0, h0, t0)]) (by rw [hN]; decide +kernel) rfl ?_
  intro p e s mid args9 below meth c s₁ B hml hv
  obtain ⟨rfl, ⟨hsz, hP, hD0, hK, hZ, hNw⟩, hE9⟩ := hv
  have hts := atoms_spec (ws := xr_hw X hq [(s0, e0, h0, t0)]) B.pre
  have hts9 : ∀ w ∈ xt_T, w.before (args.map (xx_v b ad)).toArray s = true := fun w hw => hts w (List.mem_cons_of_mem _ hw)
  have hlocks := B.notSynchronized
  have hown := findClass_of_methodNamed B.named
  obtain ⟨m9, meth9, c9, hn9, g1, g2, g3, g4, g5, g6, g7, g8⟩ := Cond.codeWith_spec (hts _ List.mem_cons_self)
  cases Option.some.inj (hn9.symm.trans B.named)
  cases Option.some.inj (g1.symm.trans B.method)
  cases Option.some.inj (g2.symm.trans (Stand.of_body B).code)
  obtain ⟨x, hx1, hx2⟩ := List.map_eq_singleton_iff.mp g5
  simp only [Prod.mk.injEq] at hx2
  obtain ⟨rfl, rfl, rfl, rfl⟩ := hx2
  subst hsz
  rw [lg_entry_eq]
  refine xx_steps_sound (sc := false) (A := va_A (xx_w b cs ad h) s.heap.size) (st := []) (xe_cls X) xk_G xr_isN (xe_row X) B.exec B.bytes hml hown hts9 hNw hK (fun z => absurd z hNn) hZ (fun z => by cases z) (Nat.le_refl _) (Nat.le_refl _) (fun q h => Or.inr h) hr1 s.heap [] 0 0 _ ad ?_ ?_ hP hD0.self va_S.rf hl ho (fun w hw => by cases hw) (fun w hw => ha w (xx_ent_mem hw)) (xx_ent_has hfl) ?_
  · show 0 + h.length ≤ mc + h.length
    omega
  · show 0 + xx_sz h ≤ ms + xx_sz h
    omega
  · intro t H' locs' cells' slots' L' ec es hlt hP' hD' hS' hL'
    have et : t = [] := List.eq_nil_of_length_eq_zero (by rw [List.length_append] at hlt; omega)
    subst et
    rw [List.append_nil] at hlt hP' hD' hL' ⊢
    have ec' : cells' = 0 := by omega
    have es' : slots' = 0 := by omega
    subst ec'
    subst es'
    have hr9 : xx_rowC xt_N (xt_P X) vwCl (xt_N hq).2 (xt_N hq).1.cls xt_T xt_Nw (.invokevirtual k) 3 q false pcC := xe_row X hq pcC _ he
    obtain ⟨hdc, -, hmt, hrr⟩ := hr9
    have hm := hmt hq10
    obtain ⟨w1, w2, C9, T9, n9, hcl0, w3⟩ := hrr hq10
    have w1 : Cond.methodLink (xt_N hq).1.cls k (xt_N q).1 ∈ xt_T := w1
    rw [hst1, Nat.add_sub_cancel, xx_cg_ob hZ.2.1 hP' (xx_w_at hl hg9)] at hcl0
    have hrcv := va_recv hK hP' hcl0 (xx_w_at hl hg9)
    have hMet := hM ad H'.size hl
    have hPV : PreV s H' C9 (ad.getD a 0) (va_Pc ((Value.ref a :: as9).map (xx_v b ad)) (xr_Pc D cs b ad h H'.size)) (as9.map (xx_v b ad)) := ⟨xr_blind, hrcv, xr_give hP' hD' hS' (fun q h => Or.inr h) hK hZ hE9 hNw⟩
    have hpd : (parseMethodDescriptor (xt_N q).1.desc).map (fun d => d.parameters.length) = some as9.length := by
      have h5 := hm.2.2.2.2.2.1
      rw [if_neg (by omega), e2] at h5
      cases hpp : parseMethodDescriptor (xt_N q).1.desc with
      | none => rw [hpp] at h5; cases h5
      | some dd =>
        rw [hpp] at h5
        have h6 : dd.parameters.length + 1 = as9.length + 1 := Option.some.inj h5
        show some dd.parameters.length = some as9.length
        rw [Nat.add_right_cancel h6]
    have hfrm : d' + 1 ≤ d ∧ 8 + (((xt_P X).1 q).2.1 + 11) + d' * 64 ≤ d * 64 := by
      have := hm.2.2.2.2.2.2
      omega
    have hcb : CallB (headSpec (xr_hw X hq [(x.startPc, x.endPc, x.handlerPc, x.catchType)]) { frames := d, cells := mc, slots := ms, locals := d * 64 }).room s (args.map (xx_v b ad)).toArray (xt_N hq).1.cls k (xt_N q).1 (xt_N q).2 ((xt_P X).1 q).2.1 ((xt_P X).1 q).2.2.2.1 (xx_ws xt_N (xt_P X) xt_T q) { frames := d', cells := mc, slots := ms, locals := d' * 64 } mc ms as9.length :=
      callB_of as9.length hts9 (xx_good xk_G hm) rfl rfl rfl (hts9 _ hm.2.1) (hts9 _ w1) ⟨hm.2.2.2.1, hm.2.2.2.2.1, hpd⟩ hfrm
    have hstk2 : (as9.reverse ++ Value.ref a :: rest).map (xx_v b ad) = (as9.map (xx_v b ad)).reverse ++ .ref (ad.getD a 0) :: rest.map (xx_v b ad) := by
      rw [List.map_append, List.map_reverse, List.map_cons]
      rfl
    have hW8 : 2 * (F0 mid pcC L' ((as9.reverse ++ Value.ref a :: rest).map (xx_v b ad))).monitorRoom + ((rest.map (xx_v b ad)).map fun v => v.category).sum ≤ 8 := lv_room (by rw [xx_words]; exact e8)
    have hrun := vx_runV (p := p) (l := l) (e := e) (R := (headSpec (xr_hw X hq [(x.startPc, x.endPc, x.handlerPc, x.catchType)]) { frames := d, cells := mc, slots := ms, locals := d * 64 }).room) (below := below) (meth := meth) (H := H') (locs := locs') (cells := 0) (slots := 0) (g := F0 mid pcC L' ((as9.reverse ++ Value.ref a :: rest).map (xx_v b ad))) (rest := rest.map (xx_v b ad)) ⟨B.exec, B.bytes, hml, hown, hts9⟩ hMet ⟨hcb, hts9 _ w2, hts9 _ w3⟩ hPV rfl (List.length_map _) hL'.1 hstk2 hW8 hdc ⟨by show 0 + mc ≤ mc; omega, by show 0 + ms ≤ ms; omega⟩
    intro T hT X0
    rcases hrun T hT X0 with ⟨v9, st₀, t, T', Lc, h0', X', hLc, q1, q2, hq9, stp⟩ | ⟨qa, st₀, t, T', Lc, E9, ce, h0', X', hLc, q1, q2, ⟨hEE, ⟨t9, hl9, hP9, hD9⟩, hF9⟩, hce, hcv, hcl9, stp⟩
    · exact hq9.elim
    · rw [hEE] at hcl9
      obtain ⟨hS9, hF⟩ := xr_back hD' hS' (fun q h => Or.inr h) h0' hLc hF9
      rw [Nat.zero_add, Nat.zero_add] at X'
      have hqq : ∀ u : State, u.heap = t.heap → s.WarmedH u.vm → xx_Qc D vwCl cs b ad h s.heap.size (some (.int (iI 1))) h' (args.map (xx_v b ad)).toArray s (.returned (some (.int (iI 1)))) u := fun u hu _ => ⟨⟨t9, rfl, hl9, by rw [hu]; exact hP9, hD9.weaken (fun _ _ _ z => hF _ z)⟩, hS9.F hu⟩
      have fin : ∀ L2 : Array Slot, W p l e (headSpec (xr_hw X hq [(x.startPc, x.endPc, x.handlerPc, x.catchType)]) { frames := d, cells := mc, slots := ms, locals := d * 64 }).room s mid (args.map (xx_v b ad)).toArray below meth c t.heap (locs' ++ Lc) mc ms (vx_MQ below (xx_Qc D vwCl cs b ad h s.heap.size (some (.int (iI 1))) h') (fun _ _ _ => False) (args.map (xx_v b ad)).toArray s mc ms (va_A (xx_w b cs ad h) s.heap.size)) (F0 mid (x.handlerPc + ln) L2 []) := fun L2 =>
        lv_iconst B.exec B.bytes hic (show Int32.ofInt 1 = iI 1 from rfl) (vx_ret (W.zret B.exec B.bytes B.returns rfl hqq hS9.2.2 hir))
      have kk9 : vx_W p l e (headSpec (xr_hw X hq [(x.startPc, x.endPc, x.handlerPc, x.catchType)]) { frames := d, cells := mc, slots := ms, locals := d * 64 }).room s mid (args.map (xx_v b ad)).toArray below meth c t.heap (locs' ++ Lc) mc ms (vx_MQ below (xx_Qc D vwCl cs b ad h s.heap.size (some (.int (iI 1))) h') (fun _ _ _ => False) (args.map (xx_v b ad)).toArray s mc ms (va_A (xx_w b cs ad h) s.heap.size)) (F0 mid pcC L' (rest.map (xx_v b ad))) qa := by
        refine xr_catch (own := (xt_N hq).1.cls) (name := E) (E := E) hown x [] (by rw [hx1]) ?_ ht0 (by rw [hN]; exact va_Nw.use (xr_ot hln).1 (hE9.2.2.2 _ hln)) (va_Nw.use (xr_ot hca).1 (hE9.2.2.2 _ hca)) hce hcv hcl9 ?_
        · show (decide (x.startPc ≤ pcC) && decide (pcC < x.endPc)) = true
          rw [decide_eq_true hcov.1, decide_eq_true hcov.2]
          rfl
        · rcases hast with ⟨ha1, rfl⟩ | ⟨kf, ha1, hkf, rfl⟩
          · exact lv_astore B.exec B.bytes ha1 hL'.lv hi rfl (fun L2 _ => fin L2)
          · exact lv_astore_n B.exec B.bytes ha1 hkf hL'.lv hi rfl (fun L2 _ => fin L2)
      obtain ⟨t2, a1, b1⟩ := kk9 T' q1 X'
      exact ⟨t2, stp.trans a1, b1⟩
end XR
section XRL
variable {p : Program} {l : Launch} {e : Env} {s : State} {m : MethodId} {below : List Frame} {meth : Method} {c : Code} {Q : State → Prop} {bb L : Nat} {xs : Nat → Int32} {D : va_G} {cs : Nat → ClassId}
/-- the law calls a helper -/
theorem xr_law (C0 : lw_At p s m meth c bb L xs) (hK : va_K D vwCl (xx_ty cs) s) {hq k pc d mc ms cells slots : Nat} {hh : List (Nat × Nat × Nat × Nat)} {args st : List Value} {r : Int32} {ls : xx_L} {h h' : xx_H} {H : Heap} {locs : List Loc} {L0 : Array Slot} {as : List Nat}
    (hw1 : Cond.codeWith (xt_N hq).1 (xt_N hq).2 ((xt_P ((List.range L).map xs)).1 hq).2.1 (some .int) hh ∈ lw_tbl) (hw2 : Cond.methodLink RL k (xt_N hq).1 ∈ lw_tbl) (hw3 : Cond.static (xt_N hq).1 ∈ lw_tbl) (hw4 : Cond.initialized RL ∈ lw_tbl) (hcl : (xt_N hq).1.cls = RL) (hml45 : ((xt_P ((List.range L).map xs)).1 hq).2.1 ≤ 45)
    (hpd : (parseMethodDescriptor (xt_N hq).1.desc).map (fun d => d.parameters.length) = some args.length) (hdec : decode code pc = .ok (.invokestatic k, 3))
    (hM : ∀ (ad : List Nat) (sz : Nat), ad.length = h.length → xr_HM l ((List.range L).map xs) D cs (xe_B bb s) ad h sz hq hh args r h' mc ms d) (hd : d ≤ 1200) (hok : xx_okh h') (hle : h.length ≤ h'.length) (h8 : (st.map Value.category).sum ≤ 8)
    (hat : xe_At s bb D cs ls (args.reverse ++ st) h H locs L0 as) (hRc : cells + mc ≤ 600128) (hRs : slots + ms ≤ 7301098)
    (kk : ∀ (H' : Heap) (locs' : List Loc) (as' : List Nat), xe_At s bb D cs ls (.int r :: st) h' H' locs' L0 as' → W p l e room_1 s m #[Value.ref bb] below meth c H' locs' (cells + mc) (slots + ms) Q (F0 m (pc + 3) L0 ((Value.int r :: st).map (xx_v (xe_B bb s) as')))) :
    W p l e room_1 s m #[Value.ref bb] below meth c H locs cells slots Q (F0 m pc L0 ((args.reverse ++ st).map (xx_v (xe_B bb s) as))) := by
  obtain ⟨hx, hb, hr0, hml, hown, hts, hX, hbl, hlocks, hgv⟩ := id C0
  obtain ⟨hP, hD, hS, hl, ho, hs, hls, hL⟩ := hat
  have hMet := hM as H.size hl
  have hcw : vx_CSW room_1 s #[Value.ref bb] RL k (xt_N hq).1 (xt_N hq).2 ((xt_P ((List.range L).map xs)).1 hq).2.1 (some .int) hh (xr_hw ((List.range L).map xs) hq hh) { frames := d, cells := mc, slots := ms, locals := d * 64 } mc ms args.length := by
    refine ⟨⟨rfl, rfl, by show d + 1 ≤ 2048; omega, by show 8 + (_ + 11) + d * 64 ≤ 84000; omega, fun w hw a' U hW => ?_, List.mem_cons_self⟩, hts _ hw1, by rw [hcl]; exact hts _ hw4, by rw [hcl]; exact ⟨by decide +kernel, by decide +kernel⟩, fun sig hsg => ?_, hts _ hw2, hts _ hw3⟩
    · rcases List.mem_cons.mp hw with rfl | hw
      · exact word_at hW (good_of_word rfl) (hts _ hw1)
      · exact word_at hW (good_of_word (xk_G w hw)) (xe_T0 hts w hw)
    · rw [hsg] at hpd
      exact (Option.some.inj hpd).symm
  have hPS : PreS s H (va_Pc (args.map (xx_v (xe_B bb s) as)) (xr_Pc D cs (xe_B bb s) as h H.size)) (args.map (xx_v (xe_B bb s) as)) := ⟨xr_blind, xr_give hP hD hS (fun _ h => h) hK (xe_ZE hts hgv) (xr_start hts hgv) (fun w hw => xe_nw (xr_isN w hw) (hts w (xk_n w hw)))⟩
  have hstk : (args.reverse ++ st).map (xx_v (xe_B bb s) as) = (args.map (xx_v (xe_B bb s) as)).reverse ++ st.map (xx_v (xe_B bb s) as) := by rw [List.map_append, List.map_reverse]
  have hrun := vx_runSX (p := p) (l := l) (e := e) (R := room_1) (m := m) (below := below) (meth := meth) (c := c) (H := H) (locs := locs) (cells := cells) (slots := slots) (g := F0 m pc L0 ((args.reverse ++ st).map (xx_v (xe_B bb s) as))) (rest := st.map (xx_v (xe_B bb s) as)) ⟨hx, hb, hml, hown, hts⟩ hMet hcw hPS rfl (List.length_map _) hL.1 hstk (lv_room (by rw [xx_words]; exact h8)) hdec ⟨hRc, hRs⟩
  have hs2 : xx_oks h.length true st := fun w hw => hs w (List.mem_append_right _ hw)
  intro T hT X0
  rcases hrun T hT X0 with ⟨v9, st₀, t, T', Lc, h0, X', hLc, q1, q2, ⟨⟨t9, hv9, hl9, hP9, hD9⟩, hF9⟩, stp⟩ | ⟨qa, st₀, t, T', Lc, E9, ce, h0, X', hLc, q1, q2, hf, -⟩
  · cases hv9
    obtain ⟨hS9, hF⟩ := xr_back hD hS (fun _ h => h) h0 hLc hF9
    have k9 := kk t.heap (locs ++ Lc) (as ++ t9) ⟨hP9, hD9.weaken (fun _ _ _ z => hF _ z), hS9, hl9, hok, fun w hw => by
      rcases List.mem_cons.mp hw with rfl | z
      · exact trivial
      · exact (hs2 w z).mono hle, hls.mono hle, xx_has_app hL (by rw [hl]; exact hls)⟩
    have e9 : (Value.int r :: st).map (xx_v (xe_B bb s) (as ++ t9)) = .int r :: st.map (xx_v (xe_B bb s) as) := by
      rw [List.map_cons, xx_st_app (st := st) (sc := true) (by rw [hl]; exact hs2)]
      rfl
    rw [e9] at k9
    obtain ⟨t3, a1, b1⟩ := k9 T' q1 X'
    exact ⟨t3, stp t3 a1, b1⟩
  · exact hf.elim
end XRL
/-! ===== from contracts over memories ===== -/
section XRM
variable {l : Launch} {X : List Int32} {D : va_G} {cs : Nat → ClassId} {b : xx_B} {S : ST} {P : ST → Prop}
theorem xr_A {hq d : Nat} {hh : List (Nat × Nat × Nat × Nat)} {args : List Value} (hN : (xt_N hq).1.cls = RL) (hNn : (xt_N hq).1.name ≠ "<init>") (hret : ((xt_P X).1 hq).2.2.2.1 = some .int) (hsm : sM X d hq args S (fun w T => w = some (.int (iI 0)) ∧ P T)) (ho : xx_okh (sH S)) (ha : ∀ w ∈ args, xx_okv (sH S).length false w) (hfl : (xx_flat args).length ≤ ((xt_P X).1 hq).2.1) :
    ∃ S1, P S1 ∧ (xx_okh (sH S1) ∧ (sH S).length ≤ (sH S1).length ∧ xx_sz (sH S) ≤ xx_sz (sH S1)) ∧ ∀ (ad : List Nat) (sz : Nat), ad.length = (sH S).length → xr_HM l X D cs b ad (sH S) sz hq hh args (iI 0) (sH S1) ((sH S1).length - (sH S).length + 0) (xx_sz (sH S1) - xx_sz (sH S) + 0) d := by
  obtain ⟨f, v, h', hr, T, rfl, rfl, hP⟩ := xv_run (sM_xv hsm)
  obtain ⟨k1, k2, k3, k4⟩ := xx_run_kp f d hq 0 _ [] _ _ _ false hr ho (fun w hw => by cases hw) (fun w hw => ha w (xx_ent_mem hw))
  exact ⟨T, hP, ⟨k1, k2, k3⟩, fun ad sz hl => xr_hok hN hNn hret hr ho ha hfl ad hl sz⟩
theorem xr_B {hq q k pcC pcT d d' i ln t0 s0 e0 h0 a ic ik is : Nat} {E text : String} {args as9 rest : List Value} (hl0 : l.stackTraces = false) (hN : (xt_N hq).1.cls = RL) (hNn : (xt_N hq).1.name ≠ "<init>") (hq5 : (xt_N q).1.cls = RX5) (hqn : (xt_N q).1.name ≠ "<init>")
    (h1 : sT X d hq 0 (xx_ent ((xt_P X).1 hq).2.1 args) [] S (fun pc _ st T => pc = pcC ∧ st = as9.reverse ++ .ref a :: rest ∧ T = S)) (h2 : sT X d' q 0 (xx_ent ((xt_P X).1 q).2.1 (.ref a :: as9)) [] S (fun pc _ st T => pc = pcT ∧ st = [] ∧ P T))
    (he : ((xt_P X).1 hq).1 pcC = some (.invokevirtual k, 3, q, false)) (hq10 : 10 ≤ q) (e2 : ((xt_P X).1 q).2.2.1 = as9.length + 1) (e8 : (rest.map Value.category).sum ≤ 8) {cc9 : Nat} {fs9 : List Value} (hg9 : (sH S)[a]? = some (.inr (cc9, fs9))) (hst1 : ((xt_P X).1 q).2.2.2.2 = cc9 + 1)
    (hd6 : 6 ≤ d') (hdd : d' + 1 ≤ d) (hE : Bundle.fit E = true) (hin : ∀ w ∈ xr_w0 E ik ic, w ∈ xr_W) (hstr : ∀ {A : Nat → Prop} {U : State} {H : Heap}, xr_E A U H → ∃ a, vk_R RX5 is text a U)
    (d0 : decode (xt_N q).2 pcT = .ok (.new ik, 3)) (d3 : decode (xt_N q).2 (pcT + 3) = .ok (.dup, 1)) (d4 : decode (xt_N q).2 (pcT + 4) = .ok (.ldc is, 2)) (d6 : decode (xt_N q).2 (pcT + 6) = .ok (.invokespecial ic, 3)) (d9 : decode (xt_N q).2 (pcT + 9) = .ok (.athrow, 1))
    (hcov : s0 ≤ pcC ∧ pcC < e0) (ht0 : t0 ≠ 0) (hln : Cond.classLink RL t0 E ∈ xr_W) (hca : Cond.castable E E ∈ xr_W) (hi : i < ((xt_P X).1 hq).2.1)
    (hast : (decode (xt_N hq).2 h0 = .ok (.astore i, 2) ∧ ln = 2) ∨ ∃ kf : Fin 4, decode (xt_N hq).2 h0 = .ok (.astore_n kf, 1) ∧ (kf : Nat) = i ∧ ln = 1) (hic : decode (xt_N hq).2 (h0 + ln) = .ok (.iconst 1, 1)) (hir : decode (xt_N hq).2 (h0 + ln + 1) = .ok (.ireturn, 1))
    (ho : xx_okh (sH S)) (ha : ∀ w ∈ args, xx_okv (sH S).length false w) (hfl : (xx_flat args).length ≤ ((xt_P X).1 hq).2.1) (ha2 : ∀ w ∈ Value.ref a :: as9, xx_okv (sH S).length false w) (hfl2 : (xx_flat (.ref a :: as9)).length ≤ ((xt_P X).1 q).2.1) :
    ∃ S1, P S1 ∧ (xx_okh (sH S1) ∧ (sH S).length ≤ (sH S1).length ∧ xx_sz (sH S) ≤ xx_sz (sH S1)) ∧ ∀ (ad : List Nat) (sz : Nat), ad.length = (sH S).length → xr_HM l X D cs b ad (sH S) sz hq [(s0, e0, h0, t0)] args (iI 1) (sH S1) ((sH S1).length - (sH S).length + 1) (xx_sz (sH S1) - xx_sz (sH S) + 6) d := by
  obtain ⟨f1, n1, pc1, ls1, st1, hh1, hr1, T1, rfl, rfl, rfl, rfl⟩ := h1
  obtain ⟨f2, n2, pc2, ls2, st2, hh2, hr2, T2, rfl, rfl, rfl, hP⟩ := h2
  obtain ⟨k1, k2, k3, k4, k5⟩ := xx_steps_kp (sc := false) hr2 ho (fun w hw => by cases hw) (fun w hw => ha2 w (xx_ent_mem hw))
  exact ⟨T2, hP, ⟨k1, k4, k5⟩, fun ad sz hl => xr_hthr hN hNn hr1 he hq10 e2 e8 hg9 hst1 (fun ad' sz' hl' => xr_thr hl0 hq5 hqn hr2 hd6 hE hin hstr d0 d3 d4 d6 d9 ho ha2 hfl2 ad' hl' sz') hdd hcov ht0 hln hca hi hast hic hir ho ha hfl ad hl sz⟩
end XRM
/-- locals 5 and 6 forgotten -/
theorem xr_forget {s : State} {b : Nat} {D : va_G} {cs : Nat → ClassId} {o0 o1 o2 o3 o4 o5 o6 : Option Value} {st : List Value} {h : xx_H} {H : Heap} {locs : List Loc} {L0 : Array Slot} {as : List Nat} (hat : xe_At s b D cs [o0, o1, o2, o3, o4, o5, o6] st h H locs L0 as) : xe_At s b D cs [o0, o1, o2, o3, o4, none, none] st h H locs L0 as := by
  obtain ⟨h1, h2, h3, h4, h5, h6, h7, h8, h9, h10, h11⟩ := hat
  refine ⟨h1, h2, h3, h4, h5, h6, fun v hv => h7 v ?_, h8, h9, rfl, fun i v hi => h11 i v ?_⟩
  · simp only [List.mem_cons, List.not_mem_nil, or_false, reduceCtorEq] at hv ⊢
    rcases hv with q | q | q | q | q
    · exact Or.inl q
    · exact Or.inr (Or.inl q)
    · exact Or.inr (Or.inr (Or.inl q))
    · exact Or.inr (Or.inr (Or.inr (Or.inl q)))
    · exact Or.inr (Or.inr (Or.inr (Or.inr (Or.inl q))))
  · match i, hi with
    | 0, hi => exact hi
    | 1, hi => exact hi
    | 2, hi => exact hi
    | 3, hi => exact hi
    | 4, hi => exact hi
    | 5, hi => cases hi
    | 6, hi => cases hi
    | j + 7, hi => cases hi
/-- where a round comes to -/
def xr_K (k : Nat) : Nat → xx_L → List Value → ST → Prop := fun pc ls st T => pc = 23 ∧ (∃ o5 o6, ls = [some (.retAddr 0), some (.ref 0), some (.ref 179), some (.ref 202), some (.int (iI ((6 * k + 6 : Nat) : Int))), o5, o6]) ∧ st = [] ∧ JI T
section XRR
variable {p : Program} {l : Launch} {e : Env} {s : State} {m : MethodId} {below : List Frame} {meth : Method} {c : Code} {bb L : Nat} {xs : Nat → Int32} {D : va_G} {cs : Nat → ClassId}
/-- the law's call of a helper and the rest of that round -/
theorem xr_round (C0 : lw_At p s m meth c bb L xs) (hK : va_K D vwCl (xx_ty cs) s) {k hq kx pc e1 e2 cells slots : Nat} {hh : List (Nat × Nat × Nat × Nat)} {args : List Value} {r : Int} {S S1 : ST} {H : Heap} {locs : List Loc} {L0 : Array Slot} {as : List Nat} (hk64 : k < 64)
    (hw1 : Cond.codeWith (xt_N hq).1 (xt_N hq).2 ((xt_P ((List.range L).map xs)).1 hq).2.1 (some .int) hh ∈ lw_tbl) (hw2 : Cond.methodLink RL kx (xt_N hq).1 ∈ lw_tbl) (hw3 : Cond.static (xt_N hq).1 ∈ lw_tbl) (hw4 : Cond.initialized RL ∈ lw_tbl) (hcl : (xt_N hq).1.cls = RL) (hml45 : ((xt_P ((List.range L).map xs)).1 hq).2.1 ≤ 45)
    (hpd : (parseMethodDescriptor (xt_N hq).1.desc).map (fun d => d.parameters.length) = some args.length) (hdec : decode code pc = .ok (.invokestatic kx, 3))
    (hS1 : xx_okh (sH S1) ∧ (sH S).length ≤ (sH S1).length ∧ xx_sz (sH S) ≤ xx_sz (sH S1))
    (hM : ∀ (ad : List Nat) (sz : Nat), ad.length = (sH S).length → xr_HM l ((List.range L).map xs) D cs (xe_B bb s) ad (sH S) sz hq hh args (iI r) (sH S1) ((sH S1).length - (sH S).length + e1) (xx_sz (sH S1) - xx_sz (sH S) + e2) 200) (he : e1 ≤ 1 ∧ e2 ≤ 6)
    (p2 : sT ((List.range L).map xs) 170 334 (pc + 3) (xl_l (nI (6 * k))) [.int (iI r)] S1 (xr_K k)) (hc : cells ≤ (sH S).length + 20 * k) (hs : slots ≤ xx_sz (sH S) + 100 * k)
    (hat : xe_At s bb D cs (xl_l (nI (6 * k))) (args.reverse ++ []) (sH S) H locs L0 as)
    (kk : ∀ (h' : xx_H) (H' : Heap) (locs' : List Loc) (L' : Array Slot) (as' : List Nat) (cells' slots' : Nat), xInv (k + 1) h' cells' slots' → xe_At s bb D cs (xl_l (nI (6 * k + 6))) [] h' H' locs' L' as' → W p l e room_1 s m #[Value.ref bb] below meth c H' locs' cells' slots' (lw_Z below #[Value.ref bb] s) (F0 m 23 L' [])) :
    W p l e room_1 s m #[Value.ref bb] below meth c H locs cells slots (lw_Z below #[Value.ref bb] s) (F0 m pc L0 ((args.reverse ++ []).map (xx_v (xe_B bb s) as))) := by
  have hls : xx_okl (sH S1).length true (xl_l (nI (6 * k))) := hat.2.2.2.2.2.2.1.mono hS1.2.1
  have hz1 := hS1.2.1
  have hz2 := hS1.2.2
  have he1 := he.1
  have he2 := he.2
  have hb : (sH S1).length + 20 * (k + 1) ≤ 600128 ∧ xx_sz (sH S1) + 100 * (k + 1) ≤ 7301098 := by
    obtain ⟨f, n, pc', ls', st', h', hrr, T, rfl, hT⟩ := p2
    obtain ⟨g1, g2, g3, g4, g5⟩ := xx_steps_kp (sc := true) hrr hS1.1 (fun w hw => by cases List.mem_singleton.mp hw; exact trivial) hls
    have h3 := xInv_room (k := k + 1) (h := sH T) (cells := (sH T).length + 20 * (k + 1)) (slots := xx_sz (sH T) + 100 * (k + 1)) (by omega) ⟨T, rfl, hT.2.2.2, Nat.le_refl _, Nat.le_refl _⟩
    omega
  refine xr_law (st := []) C0 hK hw1 hw2 hw3 hw4 hcl hml45 hpd hdec hM (by decide) hS1.1 hS1.2.1 (Nat.zero_le _) hat (by omega) (by omega) (fun H' locs' as' hat2 => ?_)
  refine xe_T C0 hK (show 170 ≤ 1300 by decide) p2 ?_ hat2 ?_
  · rintro pc' ls' st' h' ⟨T, rfl, hT⟩
    have h3 := xInv_room (k := k + 1) (h := sH T) (cells := (sH T).length + 20 * (k + 1)) (slots := xx_sz (sH T) + 100 * (k + 1)) (by omega) ⟨T, rfl, hT.2.2.2, Nat.le_refl _, Nat.le_refl _⟩
    refine ⟨?_, ?_⟩
    · show _ ≤ 600128 + _
      omega
    · show _ ≤ 7301098 + _
      omega
  · rintro pc' ls' st' h' H2 locs2 cells2 slots2 L2 as2 ⟨T, rfl, rfl, ⟨o5, o6, rfl⟩, rfl, hJ⟩ ec es hat3
    refine kk _ H2 locs2 L2 as2 cells2 slots2 ⟨T, rfl, hJ, by omega, by omega⟩ ?_
    have h9 := xr_forget hat3
    rw [iI_nI] at h9
    exact h9
end XRR
