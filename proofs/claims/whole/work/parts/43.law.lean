/-! ===== xe_: pieces of the law's body by the rules of xv_T ===== -/
theorem xx_steps_kp {P : xx_P} {f : Nat} : ∀ {n d m pc pc' : Nat} {ls ls' : xx_L} {st st' : List Value} {h h' : xx_H} {sc : Bool}, xx_steps P f n d m pc ls st h = some (pc', ls', st', h') → xx_okh h → xx_oks h.length sc st → xx_okl h.length sc ls → xx_okh h' ∧ xx_oks h'.length sc st' ∧ xx_okl h'.length sc ls' ∧ h.length ≤ h'.length ∧ xx_sz h ≤ xx_sz h'
  | 0, _, _, _, _, _, _, _, _, _, _, _, hr, ho, hs, hl => by
    cases hr
    exact ⟨ho, hs, hl, Nat.le_refl _, Nat.le_refl _⟩
  | n + 1, d, m, pc, pc', ls, ls', st, st', h, h', sc, hr, ho, hs, hl => by
    unfold xx_steps at hr
    split at hr
    · cases hr
    · rename_i pc1 ls1 st1 h1 h1e
      obtain ⟨g1, g2, g3, g4, g5⟩ := xx_one_kp h1e ho hs hl
      obtain ⟨k1, k2, k3, k4, k5⟩ := xx_steps_kp hr g1 g2 g3
      exact ⟨k1, k2, k3, Nat.le_trans g4 k4, Nat.le_trans g5 k5⟩
section XG
variable {p : Program} {l : Launch} {e : Env} {R : Room} {s : State} {mid : MethodId} {args : Array Value} {below : List Frame} {meth : Method} {c : Code} {Q : State → Prop} {A : Nat → Prop}
variable {P : xx_P} {N : xx_N} {cl : List vw_C} {Z : xx_Z} {Tg Nw : List Cond} {D : va_G} {cs : Nat → ClassId} {b : xx_B} {d m : Nat} {sc : Bool}
theorem xx_steps_sound (hC : xx_cls P cl Tg) (hg : ∀ w ∈ Tg, goodWord w = true) (hn : ∀ w ∈ Nw, xx_isN w = true) (hrow : ∀ m pc e, (P.1 m).1 pc = some e → xx_row N P cl Z Tg Nw m pc e)
    (hx : p.tables.exec = Jvm.exec) (hb : c.code = (N m).2) (hml : c.maxLocals = (P.1 m).2.1) (hown : s.vm.findClass (N m).1.cls = some mid.cls) (hts : ∀ w ∈ Tg, w.before args s = true) (hNw : ∀ w ∈ Nw, va_Nw w s) (hK : va_K D cl (xx_ty cs) s) (hini : (N m).1.name = "<init>" → meth.name = "<init>")
    (hZ : xx_ZE cl Z b A s s.heap) (hX : sc = true → ∃ b0, b 0 = some b0 ∧ va_X b0 P.2.2.length (fun j => P.2.2.getD j 0) s s.heap ∧ b0 < s.heap.size ∧ ¬ A b0) (hfr : d ≤ R.frames) (hlo : d * 64 ≤ R.locals) (hA : ∀ q, s.heap.size ≤ q → A q) {f : Nat} :
    ∀ {n pc pc' : Nat} {ls ls' : xx_L} {st st' : List Value} {h h' : xx_H}, xx_steps P f n d m pc ls st h = some (pc', ls', st', h') →
    ∀ (H : Heap) (locs : List Loc) (cells slots : Nat) (L : Array Slot) (as : List Nat), cells + h'.length ≤ R.cells + h.length → slots + xx_sz h' ≤ R.slots + xx_sz h → va_P D cl (xx_w b cs as h) H → va_D A (xx_w b cs as h) → va_S A s.heap H locs → as.length = h.length → xx_okh h → xx_oks h.length sc st → xx_okl h.length sc ls → xx_has L (P.1 m).2.1 b as ls →
    (∀ (t : List Nat) (H' : Heap) (locs' : List Loc) (cells' slots' : Nat) (L' : Array Slot), cells' + h.length = cells + h'.length → slots' + xx_sz h = slots + xx_sz h' → (as ++ t).length = h'.length → va_P D cl (xx_w b cs (as ++ t) h') H' → va_D A (xx_w b cs (as ++ t) h') → va_S A s.heap H' locs' → xx_has L' (P.1 m).2.1 b (as ++ t) ls' →
      W p l e R s mid args below meth c H' locs' cells' slots' Q (F0 mid pc' L' (st'.map (xx_v b (as ++ t))))) →
    W p l e R s mid args below meth c H locs cells slots Q (F0 mid pc L (st.map (xx_v b as)))
  | 0, _, _, _, _, _, _, _, _, hr => by
    intro H locs cells slots L as hRc hRs hP hD hS hl ho hs hls hL kk
    cases hr
    have k9 := kk [] H locs cells slots L rfl rfl (by rw [List.append_nil]; exact hl) (by rw [List.append_nil]; exact hP) (by rw [List.append_nil]; exact hD) hS (by rw [List.append_nil]; exact hL)
    rw [List.append_nil] at k9
    exact k9
  | n + 1, pc, pc', ls, ls', st, st', h, h', hr => by
    intro H locs cells slots L as hRc hRs hP hD hS hl ho hs hls hL kk
    unfold xx_steps at hr
    split at hr
    · cases hr
    · rename_i pc1 ls1 st1 h1 h1e
      obtain ⟨g1, g2, g3, g4, g5⟩ := xx_one_kp h1e ho hs hls
      obtain ⟨k1, k2, k3, k4, k5⟩ := xx_steps_kp hr g1 g2 g3
      refine xx_one_sound hC hg hn hrow hx hb hml hown hts hNw hK hini hZ hX hfr hlo hA h1e (by omega) (by omega) hP hD hS hl ho hs hls hL (fun t H' locs' cells' slots' L' ec es hl' hP' hD' hS' hL' => ?_)
      refine xx_steps_sound hC hg hn hrow hx hb hml hown hts hNw hK hini hZ hX hfr hlo hA hr _ _ _ _ _ _ (by omega) (by omega) hP' hD' hS' hl' g1 g2 g3 hL' (fun t2 H2 locs2 cells2 slots2 L2 ec2 es2 hl2 hP2 hD2 hS2 hL2 => ?_)
      rw [List.append_assoc] at hl2 hP2 hD2 hL2 ⊢
      exact kk (t ++ t2) H2 locs2 cells2 slots2 L2 (by omega) (by omega) hl2 hP2 hD2 hS2 hL2
end XG
/-- the law stands at a place of its body with these locals, this stack and heap: what holds of the machine then -/
def xe_At (s : State) (b : Nat) (D : va_G) (cs : Nat → ClassId) (ls : xx_L) (st : List Value) (h : xx_H) (H : Heap) (locs : List Loc) (L0 : Array Slot) (as : List Nat) : Prop :=
  va_P D vwCl (xx_w (xe_B b s) cs as h) H ∧ va_D (fun q => s.heap.size ≤ q) (xx_w (xe_B b s) cs as h) ∧ va_S (fun q => s.heap.size ≤ q) s.heap H locs ∧ as.length = h.length ∧ xx_okh h ∧ xx_oks h.length true st ∧ xx_okl h.length true ls ∧ xx_has L0 7 (xe_B b s) as ls
section XE2
variable {p : Program} {l : Launch} {e : Env} {s : State} {m : MethodId} {below : List Frame} {meth : Method} {c : Code} {Q : State → Prop} {b L : Nat} {xs : Nat → Int32} {D : va_G} {cs : Nat → ClassId}
/-- a piece of the law's body by the rules of xv_T; what it makes must fit the room -/
theorem xe_T (C0 : lw_At p s m meth c b L xs) (hK : va_K D vwCl (xx_ty cs) s) {d pc : Nat} {ls : xx_L} {st : List Value} {h : xx_H} {K : Nat → xx_L → List Value → xx_H → Prop} (hd : d ≤ 1300) (hr : xv_T (xt_P ((List.range L).map xs)) d xe_L pc ls st h K)
    {H : Heap} {locs : List Loc} {cells slots : Nat} {L0 : Array Slot} {as : List Nat} (hR : ∀ pc' ls' st' h', K pc' ls' st' h' → cells + h'.length ≤ room_1.cells + h.length ∧ slots + xx_sz h' ≤ room_1.slots + xx_sz h) (hat : xe_At s b D cs ls st h H locs L0 as)
    (kk : ∀ (pc' : Nat) (ls' : xx_L) (st' : List Value) (h' : xx_H) (H' : Heap) (locs' : List Loc) (cells' slots' : Nat) (L' : Array Slot) (as' : List Nat), K pc' ls' st' h' → cells' + h.length = cells + h'.length → slots' + xx_sz h = slots + xx_sz h' → xe_At s b D cs ls' st' h' H' locs' L' as' →
      W p l e room_1 s m #[Value.ref b] below meth c H' locs' cells' slots' Q (F0 m pc' L' (st'.map (xx_v (xe_B b s) as')))) :
    W p l e room_1 s m #[Value.ref b] below meth c H locs cells slots Q (F0 m pc L0 (st.map (xx_v (xe_B b s) as))) := by
  obtain ⟨hx, hb, hr0, hml, hown, hts, hX, hbl, hlocks, hgv⟩ := id C0
  obtain ⟨f, n, pc', ls', st', h', hrr, hk⟩ := hr
  obtain ⟨hP, hD, hS, hl, ho, hs, hls, hL⟩ := hat
  obtain ⟨g1, g2, g3, g4, g5⟩ := xx_steps_kp hrr ho hs hls
  refine xx_steps_sound (sc := true) (xe_cls _) xk_G (fun w hw => List.all_eq_true.mp xk_gn w hw) (xe_row _) hx hb hml hown (xe_T0 hts) (fun w hw => xe_nw (List.all_eq_true.mp xk_gn w hw) (hts w (xk_n w hw))) hK (fun h => absurd h (by decide +kernel)) (xe_ZE hts hgv) (fun _ => ⟨b, rfl, xe_script hX, hbl, Nat.not_le.mpr hbl⟩) (by show d ≤ 2048; omega) (by show d * 64 ≤ 84000; omega) (fun _ h => h) hrr _ _ _ _ _ _ (hR _ _ _ _ hk).1 (hR _ _ _ _ hk).2 hP hD hS hl ho hs hls hL (fun t H' locs' cells' slots' L' ec es hl' hP' hD' hS' hL' => ?_)
  exact kk pc' ls' st' h' H' locs' cells' slots' L' (as ++ t) hk ec es ⟨hP', hD', hS', hl', g1, g2, g3, hL'⟩
end XE2
