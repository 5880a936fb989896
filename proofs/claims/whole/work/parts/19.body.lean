/-! ===== xx_: the body of a method, from any place on ===== -/
def xx_Body (l : Launch) (P : xx_P) (N : xx_N) (cl : List vw_C) (Z : xx_Z) (Tg Nw : List Cond) (D : va_G) (cs : Nat → ClassId) (b : xx_B) (f : Nat) : Prop :=
  ∀ (d m pc : Nat) (ls : xx_L) (st : List Value) (h : xx_H) (v : Option Value) (h' : xx_H), xx_run P f d m pc ls st h = some (v, h') →
  ∀ (p : Program) (e : Env) (R : Room) (s : State) (mid : MethodId) (args : Array Value) (below : List Frame) (meth : Method) (c : Code) (H : Heap) (locs : List Loc) (cells slots : Nat) (Q : State → Prop) (A : Nat → Prop) (L : Array Slot) (sc : Bool) (as : List Nat),
  p.tables.exec = Jvm.exec → c.code = (N m).2 → c.maxLocals = (P.1 m).2.1 → s.vm.findClass (N m).1.cls = some mid.cls → (∀ w ∈ Tg, w.before args s = true) → (∀ w ∈ Nw, va_Nw w s) → va_K D cl (xx_ty cs) s → ((N m).1.name = "<init>" → meth.name = "<init>") →
  xx_ZE cl Z b A s s.heap → (sc = true → ∃ b0, b 0 = some b0 ∧ va_X b0 P.2.2.length (fun j => P.2.2.getD j 0) s s.heap ∧ b0 < s.heap.size ∧ ¬ A b0) → d ≤ R.frames → d * 64 ≤ R.locals → cells + h'.length ≤ R.cells + h.length → slots + xx_sz h' ≤ R.slots + xx_sz h →
  va_P D cl (xx_w b cs as h) H → va_D A (xx_w b cs as h) → va_S A s.heap H locs → (∀ q, s.heap.size ≤ q → A q) → as.length = h.length → xx_okh h → xx_oks h.length sc st → xx_okl h.length sc ls → xx_has L (P.1 m).2.1 b as ls →
  (∀ (t : List Nat) (H' : Heap) (locs' : List Loc) (cells' slots' : Nat) (pc' : Nat) (L' : Array Slot) (i : Instr), cells' + h.length = cells + h'.length → slots' + xx_sz h = slots + xx_sz h' → (as ++ t).length = h'.length → va_P D cl (xx_w b cs (as ++ t) h') H' → va_D A (xx_w b cs (as ++ t) h') → va_S A s.heap H' locs' → decode (N m).2 pc' = .ok (i, 1) → xx_end i (P.1 m).2.2.2.1 v.toList = some v →
    W p l e R s mid args below meth c H' locs' cells' slots' Q (F0 mid pc' L' (v.toList.map (xx_v b (as ++ t))))) →
  W p l e R s mid args below meth c H locs cells slots Q (F0 mid pc L (st.map (xx_v b as)))
/-- a method's words -/
def xx_ws (N : xx_N) (P : xx_P) (Tg : List Cond) (q : Nat) : List Cond := Cond.code (N q).1 (N q).2 (P.1 q).2.1 (P.1 q).2.2.2.1 :: Tg
/-- bodies give contracts -/
theorem xx_met {l : Launch} {P : xx_P} {N : xx_N} {cl : List vw_C} {Z : xx_Z} {Tg Nw : List Cond} {D : va_G} {cs : Nat → ClassId} {b : xx_B} {f : Nat} (ih : xx_Body l P N cl Z Tg Nw D cs b f) {d q : Nat} {as : List Value} {h h' : xx_H} {v : Option Value} (hm : xx_mth N P Tg q) (hr : xx_run P f d q 0 (xx_ent (P.1 q).2.1 as) [] h = some (v, h')) (ho : xx_okh h) (ha : ∀ w ∈ as, xx_okv h.length false w) (hfl : (xx_flat as).length ≤ (P.1 q).2.1) (ad : List Nat) (hl : ad.length = h.length) (sz : Nat) :
    Met l (N q).1 (xx_ws N P Tg q) { frames := d, cells := h'.length - h.length, slots := xx_sz h' - xx_sz h, locals := d * 64 } (va_Pc (as.map (xx_v b ad)) (xx_Pc D cl cs Z Nw b ad h sz)) (xx_Qc D cl cs b ad h sz v h') (h'.length - h.length) (xx_sz h' - xx_sz h) (va_A (xx_w b cs ad h) sz) := by
  refine va_MetF (cc := (N q).2) (maxL := (P.1 q).2.1) (ret := (P.1 q).2.2.2.1) hm.2.2.1 rfl ?_
  intro p e s mid args below meth c s₁ B hml hv
  obtain ⟨rfl, hsz, hP, hD0, hK, hZ, hNw⟩ := hv
  have hts := atoms_spec (ws := xx_ws N P Tg q) B.pre
  have hlocks := B.notSynchronized
  subst hsz
  obtain ⟨k1, k2, k3, k4⟩ := xx_run_kp f d q 0 _ [] h v h' false hr ho (fun w hw => by cases hw) (fun w hw => ha w (xx_ent_mem hw))
  rw [lg_entry_eq]
  refine ih d q 0 _ [] h v h' hr p e _ s mid _ below meth c s.heap [] 0 0 _ (va_A (xx_w b cs ad h) s.heap.size) _ false ad B.exec B.bytes hml (findClass_of_methodNamed B.named) (fun w hw => hts w (List.mem_cons_of_mem _ hw)) hNw hK (fun z => (name_of_methodNamed B.named B.method).1.trans z) hZ (fun z => by cases z) (Nat.le_refl _) (Nat.le_refl _) ?_ ?_ hP hD0.self va_S.rf (fun q h => Or.inr h) hl ho (fun w hw => by cases hw) (fun w hw => ha w (xx_ent_mem hw)) (xx_ent_has hfl) ?_
  · show 0 + h'.length ≤ (h'.length - h.length) + h.length
    omega
  · show 0 + xx_sz h' ≤ (xx_sz h' - xx_sz h) + xx_sz h
    omega
  · intro t H' locs' cells' slots' pc' L' i ec es hlt hP' hD' hS' hd hend
    have ec' : cells' = h'.length - h.length := by omega
    have es' : slots' = xx_sz h' - xx_sz h := by omega
    subst ec'
    subst es'
    have hq : ∀ u : State, u.heap = H' → s.WarmedH u.vm → xx_Qc D cl cs b ad h s.heap.size v h' (as.map (xx_v b ad)).toArray s (.returned (v.map (xx_v b (ad ++ t)))) u := fun u hu _ => ⟨⟨t, rfl, hlt, by rw [hu]; exact hP', hD'⟩, hS'.F hu⟩
    obtain ⟨-, ⟨x, ty, rfl, rfl, hret, hfit⟩ | ⟨x, rfl, rfl, hret⟩ | ⟨x, ty, rfl, rfl, hret, hfit⟩ | ⟨rfl, rfl, hret⟩⟩ := xx_end_inv hend
    · exact W.zret B.exec B.bytes (by rw [B.returns, hret]) (xx_fit_ok (b := b) (as := ad) hfit).1 hq hS'.2.2 hd
    · exact W.lret B.exec B.bytes (by rw [B.returns, hret]) hq hS'.2.2 hd
    · have hrt : (∃ n, ty = .object n) ∨ ∃ t, ty = .array t := by
        cases ty <;> first | exact Or.inl ⟨_, rfl⟩ | exact Or.inr ⟨_, rfl⟩ | (cases hfit; done)
      exact W.aret B.exec B.bytes (by rw [B.returns, hret]) hrt (Or.inr ⟨_, rfl⟩) hq hS'.2.2 hd
    · exact W.vret B.exec B.bytes (by rw [B.returns, hret]) hq hS'.2.2 hd
