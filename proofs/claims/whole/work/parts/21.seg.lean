/-! ===== xx_: one step, and steps up to a stop ===== -/
def xx_one (P : xx_P) (f d m pc : Nat) (ls : xx_L) (st : List Value) (h : xx_H) : Option (Nat × xx_L × List Value × xx_H) := match (P.1 m).1 pc with
  | none => none
  | some (i, len, q, _) => match xx_loc i len q pc ls st with
    | some (pc', ls', st') => some (pc', ls', st', h)
    | none => match xx_hp P i q st h with
      | some (st', h') => some (pc + len, ls, st', h')
      | none => match xx_prm i q st h with
        | some (st', h') => if d = 0 then none else some (pc + len, ls, st', h')
        | none => match d with
          | 0 => none
          | d' + 1 => match xx_call P i q st h with
            | some (y, as, st') => (match xx_run P f d' y 0 (xx_ent (P.1 y).2.1 as) [] h with
              | some (v, h') => some (pc + len, ls, v.toList ++ st', h')
              | none => none)
            | none => none
theorem xx_one_kp {P : xx_P} {f d m pc pc' : Nat} {ls ls' : xx_L} {st st' : List Value} {h h' : xx_H} {sc : Bool} (hr : xx_one P f d m pc ls st h = some (pc', ls', st', h')) (ho : xx_okh h) (hs : xx_oks h.length sc st) (hl : xx_okl h.length sc ls) : xx_okh h' ∧ xx_oks h'.length sc st' ∧ xx_okl h'.length sc ls' ∧ h.length ≤ h'.length ∧ xx_sz h ≤ xx_sz h' := by
  unfold xx_one at hr
  split at hr
  · cases hr
  · rename_i i len q nest he
    split at hr
    · rename_i pc1 ls1 st1 hloc
      cases hr
      obtain ⟨g1, g2⟩ := xx_loc_kp hl hs hloc
      exact ⟨ho, g2, g1, Nat.le_refl _, Nat.le_refl _⟩
    · split at hr
      · rename_i st1 h1 hhp
        cases hr
        obtain ⟨g1, g2, g3, g4⟩ := xx_hp_kp ho hs hhp
        exact ⟨g1, g2, hl.mono g3, g3, g4⟩
      · split at hr
        · rename_i st1 h1 hprm
          split at hr
          · cases hr
          · cases hr
            obtain ⟨g1, g2, g3, g4⟩ := xx_prm_kp ho hs hprm
            exact ⟨g1, g2, hl.mono g3, g3, g4⟩
        · split at hr
          · cases hr
          · rename_i d'
            split at hr
            · rename_i y as st1 hcall
              split at hr
              · rename_i u h1 hrun
                cases hr
                obtain ⟨rfl, -, e1, -, -, e2, -, -⟩ := xx_call_inv hcall
                have hs' : xx_oks h.length sc st1 := fun w hw => hs w (by rw [e1]; exact List.mem_append_right _ hw)
                have ha : ∀ w ∈ as, xx_okv h.length false w := fun w hw => xx_okv_ns (hs w (by rw [e1]; exact List.mem_append_left _ (List.mem_reverse.mpr hw))) (e2 w hw)
                obtain ⟨g1, g2, g3, g4⟩ := xx_run_kp f d' _ 0 _ [] h u _ false hrun ho (fun w hw => by cases hw) (fun w hw => ha w (xx_ent_mem hw))
                refine ⟨g1, fun w hw => ?_, hl.mono g2, g2, g3⟩
                rcases List.mem_append.mp hw with z | z
                · cases u with
                  | none => cases z
                  | some u =>
                    cases List.mem_singleton.mp z
                    exact xx_okv.sc (g4 _ rfl)
                · exact (hs' w z).mono g2
              · cases hr
            · cases hr
section XO
variable {p : Program} {l : Launch} {e : Env} {R : Room} {s : State} {mid : MethodId} {args : Array Value} {below : List Frame} {meth : Method} {c : Code} {Q : State → Prop} {A : Nat → Prop}
variable {P : xx_P} {N : xx_N} {cl : List vw_C} {Z : xx_Z} {Tg Nw : List Cond} {D : va_G} {cs : Nat → ClassId} {b : xx_B} {d m : Nat} {sc : Bool}
set_option maxHeartbeats 4000000 in
theorem xx_one_sound (hC : xx_cls P cl Tg) (hg : ∀ w ∈ Tg, goodWord w = true) (hn : ∀ w ∈ Nw, xx_isN w = true) (hrow : ∀ m pc e, (P.1 m).1 pc = some e → xx_row N P cl Z Tg Nw m pc e)
    (hx : p.tables.exec = Jvm.exec) (hb : c.code = (N m).2) (hml : c.maxLocals = (P.1 m).2.1) (hown : s.vm.findClass (N m).1.cls = some mid.cls) (hts : ∀ w ∈ Tg, w.before args s = true) (hNw : ∀ w ∈ Nw, va_Nw w s) (hK : va_K D cl (xx_ty cs) s) (hini : (N m).1.name = "<init>" → meth.name = "<init>")
    (hZ : xx_ZE cl Z b A s s.heap) (hX : sc = true → ∃ b0, b 0 = some b0 ∧ va_X b0 P.2.2.length (fun j => P.2.2.getD j 0) s s.heap ∧ b0 < s.heap.size ∧ ¬ A b0) (hfr : d ≤ R.frames) (hlo : d * 64 ≤ R.locals) (hA : ∀ q, s.heap.size ≤ q → A q)
    {f pc pc' : Nat} {ls ls' : xx_L} {st st' : List Value} {h h' : xx_H} (hrun : xx_one P f d m pc ls st h = some (pc', ls', st', h'))
    {H : Heap} {locs : List Loc} {cells slots : Nat} {L : Array Slot} {as : List Nat} (hRc : cells + h'.length ≤ R.cells + h.length) (hRs : slots + xx_sz h' ≤ R.slots + xx_sz h)
    (hP : va_P D cl (xx_w b cs as h) H) (hD : va_D A (xx_w b cs as h)) (hS : va_S A s.heap H locs) (hl : as.length = h.length) (ho : xx_okh h) (hs : xx_oks h.length sc st) (hls : xx_okl h.length sc ls) (hL : xx_has L (P.1 m).2.1 b as ls)
    (kk : ∀ (t : List Nat) (H' : Heap) (locs' : List Loc) (cells' slots' : Nat) (L' : Array Slot), cells' + h.length = cells + h'.length → slots' + xx_sz h = slots + xx_sz h' → (as ++ t).length = h'.length → va_P D cl (xx_w b cs (as ++ t) h') H' → va_D A (xx_w b cs (as ++ t) h') → va_S A s.heap H' locs' → xx_has L' (P.1 m).2.1 b (as ++ t) ls' →
      W p l e R s mid args below meth c H' locs' cells' slots' Q (F0 mid pc' L' (st'.map (xx_v b (as ++ t))))) :
    W p l e R s mid args below meth c H locs cells slots Q (F0 mid pc L (st.map (xx_v b as))) := by
  unfold xx_one at hrun
  split at hrun
  · cases hrun
  · rename_i i len q nest he
    have hr := hrow m pc _ he
    unfold xx_row at hr
    dsimp only at hr
    split at hrun
    · rename_i pc1 ls1 st1 hloc
      cases hrun
      rw [xx_loc_kd hloc] at hr
      refine xx_loc_sound hx hb hown hts hr hL hloc (fun A' hA' => ?_)
      have k9 := kk [] H locs cells slots A' rfl rfl (by rw [List.append_nil]; exact hl) (by rw [List.append_nil]; exact hP) (by rw [List.append_nil]; exact hD) hS (by rw [List.append_nil]; exact hA')
      rw [List.append_nil] at k9
      exact k9
    · split at hrun
      · rename_i st1 h1 hhp
        cases hrun
        rw [xx_hp_kd hhp] at hr
        obtain ⟨g1, g2, g3, g4⟩ := xx_hp_kp ho hs hhp
        exact xx_hp_sound hx hb hown hts hNw (fun z => hini (eq_of_beq z)) hC hr hZ hX hK hP hD hS hA hl ho hs hhp hRc hRs (fun t H' locs' cells' slots' ec es hl' hP' hD' hS' => kk t H' locs' cells' slots' L ec es hl' hP' hD' hS' (xx_has_app hL (by rw [hl]; exact hls)))
      · split at hrun
        · rename_i st1 h1 hprm
          rw [xx_prm_kd hprm] at hr
          split at hrun
          · cases hrun
          · rename_i hd0
            cases hrun
            obtain ⟨hdc, rfl, -, hr⟩ := hr
            have hd1 : 1 ≤ d := Nat.one_le_iff_ne_zero.mpr hd0
            have go : ∀ {H1 : Heap} {locs1 : List Loc}, h'.length = h.length → xx_sz h' = xx_sz h → va_P D cl (xx_w b cs as h') H1 → va_D A (xx_w b cs as h') → va_S A s.heap H1 locs1 → W p l e R s mid args below meth c H1 locs1 cells slots Q (F0 mid (pc + 3) L (st'.map (xx_v b as))) := fun {H1} {locs1} z1 z2 q1 q2 q3 => by
              have k9 := kk [] H1 locs1 cells slots L (by omega) (by omega) (by rw [List.append_nil]; omega) (by rw [List.append_nil]; exact q1) (by rw [List.append_nil]; exact q2) q3 (by rw [List.append_nil]; exact hL)
              rw [List.append_nil] at k9
              exact k9
            cases i with
            | invokespecial k =>
              have hprm : (if q = 0 then xx_pr st fun _ r => if 8 < (r.map Value.category).sum then none else some (r, h) else none) = some (st', h') := hprm
              split at hprm
              · rename_i hq
                obtain ⟨a, r, rfl, h2⟩ := xx_pr_inv hprm
                split at h2
                · cases h2
                · rename_i h8
                  cases h2
                  obtain ⟨w1, w2, w3⟩ := hr.1 hq
                  refine W.objInit hx hb hown (hts _ w1) (hts _ w2) (hts _ w3) (g := F0 mid pc L (.ref (as.getD a 0) :: st'.map (xx_v b as))) rfl (by rw [hml]; exact hL.1) (rest := st'.map (xx_v b as)) rfl hdc (by omega) ?_ (go rfl rfl hP hD hS)
                  show 2 * 0 + _ + 12 ≤ R.locals
                  rw [xx_words]
                  omega
              · cases hprm
            | invokestatic k =>
              have hprm : (if q = 1 then xx_ac st h else none) = some (st', h') := hprm
              split at hprm
              · rename_i hq
                obtain ⟨w1, w2, w3, w4⟩ := hr.1 hq
                have hnw : nativeFrameWords "java/lang/System" "arraycopy" 5 = 7 := by decide +kernel
                obtain ⟨n, dp, a, sp, a0, rfl, n1, n2, n3, n8, ⟨f9, g9, hg0, hg1, z1, z2, rfl⟩ | ⟨f9, g9, hg0, hg1, z1, z2, rfl⟩ | ⟨f9, g9, hg0, hg1, z1, z2, z3, rfl⟩⟩ := xx_ac_inv hprm
                · have hi := (List.getElem?_eq_some_iff.mp hg1).1
                  refine va_copyi hx hb (by rw [hml]; exact hL.1.symm) hown (hts _ w1) (hts _ w2) (hts _ w3) (hts _ w4) hK hP hD hS a0 a 0 0 (xx_w_at hl hg0) (xx_w_at hl hg1) rfl rfl rfl n3 n2 n1 z1 z2 (fun _ _ => rfl) (by omega) (by rw [xx_words, hnw]; omega) hdc (fun H1 locs1 q1 q2 q3 => ?_)
                  have e9 : ((as.getD a 0, .inl (cs 0, g9.length, .inl (va_cpy (fun j => f9.getD j 0) (fun j => g9.getD j 0) sp.toNatClampNeg dp.toNatClampNeg n.toNatClampNeg))) : Nat × va_E) = (as.getD a 0, xx_e b cs as (.inl (0, .inl (xx_cpy f9 g9 sp.toNatClampNeg dp.toNatClampNeg n.toNatClampNeg)))) := by
                    rw [xx_cpy_fun 0 z1 z2, ← xx_cpy_len z1 z2]
                    rfl
                  rw [e9, xx_w_set hl hi] at q1 q2
                  exact go List.length_set (xx_sz_set hg1 (xx_cpy_len z1 z2)) q1 q2 q3
                · have hi := (List.getElem?_eq_some_iff.mp hg1).1
                  refine va_copyl hx hb (by rw [hml]; exact hL.1.symm) hown (hts _ w1) (hts _ w2) (hts _ w3) (hts _ w4) hK hP hD hS a0 a 2 2 (xx_w_at hl hg0) (xx_w_at hl hg1) rfl rfl rfl n3 n2 n1 z1 z2 (fun _ _ => rfl) (by omega) (by rw [xx_words, hnw]; omega) hdc (fun H1 locs1 q1 q2 q3 => ?_)
                  have e9 : ((as.getD a 0, .inl (cs 2, g9.length, .inr (.inl (va_cpy (fun j => f9.getD j 0) (fun j => g9.getD j 0) sp.toNatClampNeg dp.toNatClampNeg n.toNatClampNeg)))) : Nat × va_E) = (as.getD a 0, xx_e b cs as (.inl (2, .inr (.inl (xx_cpy f9 g9 sp.toNatClampNeg dp.toNatClampNeg n.toNatClampNeg))))) := by
                    rw [xx_cpy_fun 0 z1 z2, ← xx_cpy_len z1 z2]
                    rfl
                  rw [e9, xx_w_set hl hi] at q1 q2
                  exact go List.length_set (xx_sz_set hg1 (xx_cpy_len z1 z2)) q1 q2 q3
                · have hi := (List.getElem?_eq_some_iff.mp hg1).1
                  refine va_copyi hx hb (by rw [hml]; exact hL.1.symm) hown (hts _ w1) (hts _ w2) (hts _ w3) (hts _ w4) hK hP hD hS a0 a 3 3 (xx_w_at hl hg0) (xx_w_at hl hg1) rfl rfl rfl n3 n2 n1 z1 z2 (fun i9 hi9 => xx_all_get (q := fun x => fits .byte (.int x)) z3 (by omega)) (by omega) (by rw [xx_words, hnw]; omega) hdc (fun H1 locs1 q1 q2 q3 => ?_)
                  have e9 : ((as.getD a 0, .inl (cs 3, g9.length, .inl (va_cpy (fun j => f9.getD j 0) (fun j => g9.getD j 0) sp.toNatClampNeg dp.toNatClampNeg n.toNatClampNeg))) : Nat × va_E) = (as.getD a 0, xx_e b cs as (.inl (3, .inl (xx_cpy f9 g9 sp.toNatClampNeg dp.toNatClampNeg n.toNatClampNeg)))) := by
                    rw [xx_cpy_fun 0 z1 z2, ← xx_cpy_len z1 z2]
                    rfl
                  rw [e9, xx_w_set hl hi] at q1 q2
                  exact go List.length_set (xx_sz_set hg1 (xx_cpy_len z1 z2)) q1 q2 q3
              · cases hprm
            | _ => exact absurd hprm (by simp [xx_prm])
        · split at hrun
          · cases hrun
          · rename_i d'
            split at hrun
            · rename_i y av st1 hcall
              split at hrun
              · rename_i u h1 hcr
                cases hrun
                obtain ⟨hyq, hq10, e1, e2, e8, e3, e4, hkind⟩ := xx_call_inv hcall
                have hyq := hyq.symm
                subst hyq
                have hs' : xx_oks h.length sc st1 := fun w hw => hs w (by rw [e1]; exact List.mem_append_right _ hw)
                have ha : ∀ w ∈ av, xx_okv h.length false w := fun w hw => xx_okv_ns (hs w (by rw [e1]; exact List.mem_append_left _ (List.mem_reverse.mpr hw))) (e3 w hw)
                obtain ⟨g1, g2, g3, g4⟩ := xx_run_kp f d' _ 0 _ [] h u h' false hcr ho (fun w hw => by cases hw) (fun w hw => ha w (xx_ent_mem hw))
                have hs2 : xx_oks h'.length sc (u.toList ++ st1) := fun w hw => by
                  rcases List.mem_append.mp hw with z | z
                  · cases u with
                    | none => cases z
                    | some u =>
                      cases List.mem_singleton.mp z
                      exact xx_okv.sc (g4 _ rfl)
                  · exact (hs' w z).mono g2
                have hk3 : xx_kd i = 3 := by
                  rcases hkind with ⟨_, rfl, _⟩ | ⟨_, _, _, _, _, _, _, ⟨rfl, _⟩ | ⟨rfl, _⟩⟩ | ⟨_, _, _, rfl, _⟩ <;> rfl
                rw [hk3] at hr
                obtain ⟨hdc, rfl, hmt, hr⟩ := hr
                have hm := hmt hq10
                have hMet := xx_met (xx_main (l := l) (D := D) (cs := cs) (b := b) hC hg hn hrow f) hm hcr ho ha e4 as hl H.size
                have hG := xx_good hg hm
                have hpl : (N q).1.cls ≠ "java/lang/invoke/MethodHandle" ∧ (N q).1.cls ≠ "java/lang/invoke/VarHandle" := ⟨hm.2.2.2.1, hm.2.2.2.2.1⟩
                have hfrm : d' + 1 ≤ R.frames ∧ 8 + ((P.1 q).2.1 + 11) + d' * 64 ≤ R.locals := by
                  have := hm.2.2.2.2.2.2
                  omega
                have hcl9 : cells + (h'.length - h.length) ≤ R.cells ∧ slots + (xx_sz h' - xx_sz h) ≤ R.slots := by omega
                have hPc : ∀ U : State, U.heap = H → s.WarmedH U.vm → va_Pc (av.map (xx_v b as)) (xx_Pc D cl cs Z Nw b as h H.size) (av.map (xx_v b as)).toArray U := fun U hU hW => ⟨rfl, by rw [hU], by rw [hU]; exact hP, hD.weaken (fun _ _ _ _ => trivial), va_K.moved hW.alike hK, by
                        rw [hU]
                        exact xx_ZE.warm hW (xx_ZE.narrow (fun q hq => by
                          rcases hq with ⟨k, e9, hq⟩ | hq
                          · exact hD.2 k _ hq
                          · exact hA q (Nat.le_trans hS.1 hq)) (xx_ZE.kept (fun a h8 h9 => hS.2.1 a h8 h9) hZ)), fun w hw => xx_Nw_warm (hn w hw) hW (hNw w hw)⟩
                have hstk : st.map (xx_v b as) = (av.map (xx_v b as)).reverse ++ st1.map (xx_v b as) := by rw [e1, List.map_append, List.map_reverse]
                have hW8 : 2 * (F0 mid pc L (st.map (xx_v b as))).monitorRoom + ((st1.map (xx_v b as)).map fun v => v.category).sum ≤ 8 := lv_room (by rw [xx_words]; exact e8)
                have cont : va_Run p l e R s mid args below meth c H locs cells slots (h'.length - h.length) (xx_sz h' - xx_sz h) (F0 mid pc L (st.map (xx_v b as))) (st1.map (xx_v b as)) (xx_Qc D cl cs b as h H.size u h' (av.map (xx_v b as)).toArray) (va_A (xx_w b cs as h) H.size) → W p l e R s mid args below meth c H locs cells slots Q (F0 mid pc L (st.map (xx_v b as))) := fun hrn => by
                  intro T hT X
                  obtain ⟨v9, st₀, t, T', Lc, h0, X', hLc, q1, q2, ⟨⟨t9, hv9, hl9, hP9, hD9⟩, hz, hk⟩, stp⟩ := hrn T hT X
                  cases hv9
                  rw [h0] at hz hk
                  have hF : ∀ q, va_A (xx_w b cs as h) H.size q → A q := fun q hq => by
                    rcases hq with ⟨k, e9, hq⟩ | hq
                    · exact hD.2 k _ hq
                    · exact hA q (Nat.le_trans hS.1 hq)
                  have hS9 : va_S A s.heap t.heap (locs ++ Lc) := ⟨Nat.le_trans hS.1 hz, fun q h' h2 => by rw [hk q (Nat.lt_of_lt_of_le h' hS.1) (fun z => h2 (hF q z))]; exact hS.2.1 q h' h2, fun q hq => by
                    rcases List.mem_append.mp hq with z | z
                    · exact hS.2.2 q z
                    · exact hF _ (hLc q z)⟩
                  have k9 := kk t9 t.heap (locs ++ Lc) (cells + (h'.length - h.length)) (slots + (xx_sz h' - xx_sz h)) L (by omega) (by omega) hl9 hP9 (hD9.weaken (fun _ _ _ z => hF _ z)) hS9 (xx_has_app hL (by rw [hl]; exact hls))
                  have e9 : (u.toList ++ st1).map (xx_v b (as ++ t9)) = (u.map (xx_v b (as ++ t9))).toList ++ st1.map (xx_v b as) := by
                    rw [List.map_append, xx_st_app (st := st1) (sc := sc) (by rw [hl]; exact hs')]
                    cases u <;> rfl
                  rw [e9] at k9
                  obtain ⟨t3, a1, b1⟩ := k9 T' q1 X'
                  exact ⟨t3, stp t3 a1, b1⟩
                have hcb : ∀ {nm : Nat} {kx : Nat} {rx : Option FieldType}, rx = (P.1 q).2.2.2.1 → (parseMethodDescriptor (N q).1.desc).map (fun d => d.parameters.length) = some nm → Cond.methodLink (N m).1.cls kx (N q).1 ∈ Tg → CallB R s args (N m).1.cls kx (N q).1 (N q).2 (P.1 q).2.1 rx (xx_ws N P Tg q) { frames := d', cells := h'.length - h.length, slots := xx_sz h' - xx_sz h, locals := d' * 64 } (h'.length - h.length) (xx_sz h' - xx_sz h) nm := fun {nm} {kx} {rx} hrx hpd hlk => by
                  subst hrx
                  exact callB_of nm hts hG rfl rfl rfl (hts _ hm.2.1) (hts _ hlk) ⟨hpl.1, hpl.2, hpd⟩ hfrm
                have hcn : ∀ {nm : Nat} {kx : Nat} {rx : Option FieldType} {host : String}, rx = (P.1 q).2.2.2.1 → (parseMethodDescriptor (N q).1.desc).map (fun d => d.parameters.length) = some nm → Cond.methodLinkNest (N m).1.cls kx (N q).1 host ∈ Nw → va_CN R s args (N m).1.cls kx (N q).1 host (N q).2 (P.1 q).2.1 rx (xx_ws N P Tg q) { frames := d', cells := h'.length - h.length, slots := xx_sz h' - xx_sz h, locals := d' * 64 } (h'.length - h.length) (xx_sz h' - xx_sz h) nm := fun {nm} {kx} {rx} {host} hrx hpd hlk => by
                  subst hrx
                  exact va_cnB nm hts hG rfl rfl rfl (hNw _ hlk) (hts _ hm.2.1) ⟨hpl.1, hpl.2, hpd⟩ hfrm
                have hfix : CallFix p mid c (N m).2 (P.1 m).2.1 s args Tg (N m).1.cls := ⟨hx, hb, hml, hown, hts⟩
                rcases hkind with ⟨k, rfl, hst0⟩ | ⟨k, a, as9, cc9, fs9, rfl, hg9, hik⟩ | ⟨k, as9, rfl, rfl, hst1⟩
                · have hpd : (parseMethodDescriptor (N q).1.desc).map (fun d => d.parameters.length) = some (P.1 q).2.2.1 := by
                    have := hm.2.2.2.2.2.1
                    rw [if_pos hst0] at this
                    exact this
                  obtain ⟨w1, w2⟩ := hr.2 hq10
                  have hPS : PreS s H (va_Pc (av.map (xx_v b as)) (xx_Pc D cl cs Z Nw b as h H.size)) (av.map (xx_v b as)) := ⟨xx_blind hn, hPc⟩
                  cases nest with
                  | true =>
                    obtain ⟨host, w1⟩ := w1
                    exact cont (va_runSN hfix hMet ⟨hcn rfl hpd w1, hts _ w2, trivial⟩ hPS rfl (by rw [List.length_map]; exact e2) hL.1 hstk hW8 hdc hcl9)
                  | false => exact cont (va_runS hfix hMet ⟨hcb rfl hpd w1, hts _ w2⟩ hPS rfl (by rw [List.length_map]; exact e2) hL.1 hstk hW8 hdc hcl9)
                · have hpd : (parseMethodDescriptor (N q).1.desc).map (fun d => d.parameters.length) = some as9.length := by
                    have h5 := hm.2.2.2.2.2.1
                    rw [if_neg (by rcases hik with ⟨-, z⟩ | ⟨-, z⟩ <;> omega), ← e2] at h5
                    cases hpp : parseMethodDescriptor (N q).1.desc with
                    | none => rw [hpp] at h5; cases h5
                    | some dd =>
                      rw [hpp] at h5
                      have h6 : dd.parameters.length + 1 = as9.length + 1 := Option.some.inj h5
                      show some dd.parameters.length = some as9.length
                      rw [Nat.add_right_cancel h6]
                  have hstk2 : st.map (xx_v b as) = (as9.map (xx_v b as)).reverse ++ .ref (as.getD a 0) :: st1.map (xx_v b as) := by
                    rw [hstk, List.map_cons, List.reverse_cons, List.append_assoc]
                    rfl
                  rcases hik with ⟨rfl, hst1⟩ | ⟨rfl, hst1⟩
                  · obtain ⟨w1, w2, C9, T9, n9, hcl0, w3⟩ := hr hq10
                    rw [hst1, Nat.add_sub_cancel] at hcl0
                    rw [xx_cg_ob hZ.2.1 hP (xx_w_at hl hg9)] at hcl0
                    have hrcv := va_recv hK hP hcl0 (xx_w_at hl hg9)
                    have hPV : PreV s H C9 (as.getD a 0) (va_Pc ((Value.ref a :: as9).map (xx_v b as)) (xx_Pc D cl cs Z Nw b as h H.size)) (as9.map (xx_v b as)) := ⟨xx_blind hn, hrcv, hPc⟩
                    cases nest with
                    | true =>
                      obtain ⟨host, w1⟩ := w1
                      exact cont (va_runVN hfix hMet ⟨hcn rfl hpd w1, hts _ w2, hts _ w3⟩ hPV rfl (List.length_map _) hL.1 hstk2 hW8 hdc hcl9)
                    | false => exact cont (va_runV hfix hMet ⟨hcb rfl hpd w1, hts _ w2, hts _ w3⟩ hPV rfl (List.length_map _) hL.1 hstk2 hW8 hdc hcl9)
                  · obtain ⟨w2, ⟨w1, w3, w4⟩ | ⟨w1, w4, w5, w3⟩⟩ := hr.2 hq10
                    · have hPS : PreS s H (va_Pc ((Value.ref a :: as9).map (xx_v b as)) (xx_Pc D cl cs Z Nw b as h H.size)) (.ref (as.getD a 0) :: as9.map (xx_v b as)) := ⟨xx_blind hn, hPc⟩
                      cases nest with
                      | true =>
                        obtain ⟨host, w1⟩ := w1
                        exact cont (va_runIN hfix hMet ⟨hcn w4.symm hpd w1, w3, hts _ w2⟩ hPS rfl (List.length_map _) hL.1 hstk2 hW8 hdc hcl9)
                      | false => exact cont (va_runI hfix hMet ⟨hcb w4.symm hpd w1, w3, hts _ w2⟩ hPS rfl (List.length_map _) hL.1 hstk2 hW8 hdc hcl9)
                    · obtain ⟨rr9, hc9, -⟩ := hP a _ (xx_w_at hl hg9)
                      have hrcv := va_recv hK hP hc9 (xx_w_at hl hg9)
                      have hPV : PreV s H rr9.1 (as.getD a 0) (va_Pc ((Value.ref a :: as9).map (xx_v b as)) (xx_Pc D cl cs Z Nw b as h H.size)) (as9.map (xx_v b as)) := ⟨xx_blind hn, hrcv, hPc⟩
                      have hcs : va_CS R s args (N m).1.cls k (N q).1 (N q).2 (P.1 q).2.1 (P.1 q).2.2.2.1 (xx_ws N P Tg q) { frames := d', cells := h'.length - h.length, slots := xx_sz h' - xx_sz h, locals := d' * 64 } (h'.length - h.length) (xx_sz h' - xx_sz h) as9.length := by
                        refine ⟨⟨rfl, rfl, hfrm.1, hfrm.2, pay_in hts hG, List.mem_cons_self⟩, hts _ w1, hts _ w4, hts _ w5, hts _ w2, hts _ hm.2.1, hts _ hm.1, w3, fun sig hsg => ?_⟩
                        rw [hsg] at hpd
                        exact (Option.some.inj hpd).symm
                      exact cont (va_runSU (hK.1 _ _ hc9).2 hfix hMet hcs hPV rfl (List.length_map _) hL.1 hstk2 hW8 hdc hcl9)
                · have hpd : (parseMethodDescriptor (N q).1.desc).map (fun d => d.parameters.length) = some as9.length := by
                    have h5 := hm.2.2.2.2.2.1
                    rw [if_neg (by omega), ← e2] at h5
                    cases hpp : parseMethodDescriptor (N q).1.desc with
                    | none => rw [hpp] at h5; cases h5
                    | some dd =>
                      rw [hpp] at h5
                      have h6 : dd.parameters.length + 1 = as9.length + 1 := Option.some.inj h5
                      show some dd.parameters.length = some as9.length
                      rw [Nat.add_right_cancel h6]
                  obtain ⟨-, ⟨a3, c3, hb3, -, -, hO3, -⟩, -⟩ := hZ.2
                  have hav : (Value.retAddr 3 :: as9).map (xx_v b as) = .ref a3 :: as9.map (xx_v b as) := by
                    show xx_bv (b 3) :: _ = _
                    rw [hb3]
                    rfl
                  rw [hav] at hMet hPc cont hstk
                  have hstk2 : st.map (xx_v b as) = (as9.map (xx_v b as)).reverse ++ .ref a3 :: st1.map (xx_v b as) := by
                    rw [hstk, List.reverse_cons, List.append_assoc]
                    rfl
                  obtain ⟨w1, w2, C9, T9, n9, hcl0, w3⟩ := hr hq10
                  rw [hst1] at hcl0
                  cases (show some ("java/lang/String", xx_sT, 2) = some (C9, T9, n9) from hcl0)
                  have hrcv := va_Orecv hO3 hS
                  have hPV : PreV s H "java/lang/String" a3 (va_Pc (.ref a3 :: as9.map (xx_v b as)) (xx_Pc D cl cs Z Nw b as h H.size)) (as9.map (xx_v b as)) := ⟨xx_blind hn, hrcv, hPc⟩
                  cases nest with
                  | true =>
                    obtain ⟨host, w1⟩ := w1
                    exact cont (va_runVN hfix hMet ⟨hcn rfl hpd w1, hts _ w2, hts _ w3⟩ hPV rfl (List.length_map _) hL.1 hstk2 hW8 hdc hcl9)
                  | false => exact cont (va_runV hfix hMet ⟨hcb rfl hpd w1, hts _ w2, hts _ w3⟩ hPV rfl (List.length_map _) hL.1 hstk2 hW8 hdc hcl9)
              · cases hrun
            · cases hrun
/-- steps of the top frame up to a stop -/
def xx_seg (P : xx_P) (f : Nat) (stop : Nat → Bool) : Nat → Nat → Nat → Nat → xx_L → List Value → xx_H → Option (Nat × xx_L × List Value × xx_H)
  | 0, _, _, _, _, _, _ => none
  | n + 1, d, m, pc, ls, st, h => match xx_one P f d m pc ls st h with
    | none => none
    | some (pc', ls', st', h') => if stop pc' = true then some (pc', ls', st', h') else xx_seg P f stop n d m pc' ls' st' h'
theorem xx_seg_kp {P : xx_P} {f : Nat} {stop : Nat → Bool} : ∀ {n d m pc pc' : Nat} {ls ls' : xx_L} {st st' : List Value} {h h' : xx_H} {sc : Bool}, xx_seg P f stop n d m pc ls st h = some (pc', ls', st', h') → xx_okh h → xx_oks h.length sc st → xx_okl h.length sc ls → xx_okh h' ∧ xx_oks h'.length sc st' ∧ xx_okl h'.length sc ls' ∧ h.length ≤ h'.length ∧ xx_sz h ≤ xx_sz h'
  | 0, _, _, _, _, _, _, _, _, _, _, _, hr, _, _, _ => by cases hr
  | n + 1, d, m, pc, pc', ls, ls', st, st', h, h', sc, hr, ho, hs, hl => by
    unfold xx_seg at hr
    split at hr
    · cases hr
    · rename_i pc1 ls1 st1 h1 h1e
      obtain ⟨g1, g2, g3, g4, g5⟩ := xx_one_kp h1e ho hs hl
      split at hr
      · cases hr
        exact ⟨g1, g2, g3, g4, g5⟩
      · obtain ⟨k1, k2, k3, k4, k5⟩ := xx_seg_kp hr g1 g2 g3
        exact ⟨k1, k2, k3, Nat.le_trans g4 k4, Nat.le_trans g5 k5⟩
theorem xx_seg_sound (hC : xx_cls P cl Tg) (hg : ∀ w ∈ Tg, goodWord w = true) (hn : ∀ w ∈ Nw, xx_isN w = true) (hrow : ∀ m pc e, (P.1 m).1 pc = some e → xx_row N P cl Z Tg Nw m pc e)
    (hx : p.tables.exec = Jvm.exec) (hb : c.code = (N m).2) (hml : c.maxLocals = (P.1 m).2.1) (hown : s.vm.findClass (N m).1.cls = some mid.cls) (hts : ∀ w ∈ Tg, w.before args s = true) (hNw : ∀ w ∈ Nw, va_Nw w s) (hK : va_K D cl (xx_ty cs) s) (hini : (N m).1.name = "<init>" → meth.name = "<init>")
    (hZ : xx_ZE cl Z b A s s.heap) (hX : sc = true → ∃ b0, b 0 = some b0 ∧ va_X b0 P.2.2.length (fun j => P.2.2.getD j 0) s s.heap ∧ b0 < s.heap.size ∧ ¬ A b0) (hfr : d ≤ R.frames) (hlo : d * 64 ≤ R.locals) (hA : ∀ q, s.heap.size ≤ q → A q) {f : Nat} {stop : Nat → Bool} :
    ∀ {n pc pc' : Nat} {ls ls' : xx_L} {st st' : List Value} {h h' : xx_H}, xx_seg P f stop n d m pc ls st h = some (pc', ls', st', h') →
    ∀ (H : Heap) (locs : List Loc) (cells slots : Nat) (L : Array Slot) (as : List Nat), cells + h'.length ≤ R.cells + h.length → slots + xx_sz h' ≤ R.slots + xx_sz h → va_P D cl (xx_w b cs as h) H → va_D A (xx_w b cs as h) → va_S A s.heap H locs → as.length = h.length → xx_okh h → xx_oks h.length sc st → xx_okl h.length sc ls → xx_has L (P.1 m).2.1 b as ls →
    (∀ (t : List Nat) (H' : Heap) (locs' : List Loc) (cells' slots' : Nat) (L' : Array Slot), cells' + h.length = cells + h'.length → slots' + xx_sz h = slots + xx_sz h' → (as ++ t).length = h'.length → va_P D cl (xx_w b cs (as ++ t) h') H' → va_D A (xx_w b cs (as ++ t) h') → va_S A s.heap H' locs' → xx_has L' (P.1 m).2.1 b (as ++ t) ls' →
      W p l e R s mid args below meth c H' locs' cells' slots' Q (F0 mid pc' L' (st'.map (xx_v b (as ++ t))))) →
    W p l e R s mid args below meth c H locs cells slots Q (F0 mid pc L (st.map (xx_v b as)))
  | 0, _, _, _, _, _, _, _, _, hr => by cases hr
  | n + 1, pc, pc', ls, ls', st, st', h, h', hr => by
    intro H locs cells slots L as hRc hRs hP hD hS hl ho hs hls hL kk
    unfold xx_seg at hr
    split at hr
    · cases hr
    · rename_i pc1 ls1 st1 h1 h1e
      obtain ⟨g1, g2, g3, g4, g5⟩ := xx_one_kp h1e ho hs hls
      split at hr
      · cases hr
        exact xx_one_sound hC hg hn hrow hx hb hml hown hts hNw hK hini hZ hX hfr hlo hA h1e hRc hRs hP hD hS hl ho hs hls hL kk
      · obtain ⟨k1, k2, k3, k4, k5⟩ := xx_seg_kp hr g1 g2 g3
        refine xx_one_sound hC hg hn hrow hx hb hml hown hts hNw hK hini hZ hX hfr hlo hA h1e (by omega) (by omega) hP hD hS hl ho hs hls hL (fun t H' locs' cells' slots' L' ec es hl' hP' hD' hS' hL' => ?_)
        refine xx_seg_sound hC hg hn hrow hx hb hml hown hts hNw hK hini hZ hX hfr hlo hA hr _ _ _ _ _ _ (by omega) (by omega) hP' hD' hS' hl' g1 g2 g3 hL' (fun t2 H2 locs2 cells2 slots2 L2 ec2 es2 hl2 hP2 hD2 hS2 hL2 => ?_)
        rw [List.append_assoc] at hl2 hP2 hD2 hL2 ⊢
        exact kk (t ++ t2) H2 locs2 cells2 slots2 L2 (by omega) (by omega) hl2 hP2 hD2 hS2 hL2
end XO
