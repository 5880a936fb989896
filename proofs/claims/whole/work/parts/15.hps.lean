section XM
variable {p : Program} {l : Launch} {e : Env} {R : Room} {s : State} {m : MethodId} {args : Array Value} {below : List Frame} {meth : Method} {c : Code} {H : Heap} {locs : List Loc} {cells slots : Nat} {Q : State → Prop}
variable {cc : ByteArray} {own : String} {b : xx_B} {cs : Nat → ClassId} {as : List Nat} {D : va_G} {cl : List vw_C} {A : Nat → Prop}
set_option maxHeartbeats 4000000 in
theorem xx_mna_sound {P : xx_P} {sc : Bool} {q pc k9 : Nat} (hx : p.tables.exec = Jvm.exec) (hb : c.code = cc) (hown : s.vm.findClass own = some m.cls) (w1 : (Cond.classLink own k9 "[[J").before args s = true) (w2 : (Cond.arrayClass .long).before args s = true) (w3 : va_Nw (.arrayOver (.array .long)) s) (hd : decode cc pc = .ok (.multianewarray k9 2, 4))
    (hK : va_K D cl (xx_ty cs) s) {h h' : xx_H} {st st' : List Value} (hP : va_P D cl (xx_w b cs as h) H) (hD : va_D A (xx_w b cs as h)) (hS : va_S A s.heap H locs) (hA : ∀ q, s.heap.size ≤ q → A q) (hl : as.length = h.length) (ho : xx_okh h) (hs : xx_oks h.length sc st)
    (hh : xx_hp P (.multianewarray k9 2) q st h = some (st', h')) (hRc : cells + h'.length ≤ R.cells + h.length) (hRs : slots + xx_sz h' ≤ R.slots + xx_sz h) {L : Array Slot}
    (kk : ∀ (t : List Nat) (H' : Heap) (locs' : List Loc) (cells' slots' : Nat), cells' + h.length = cells + h'.length → slots' + xx_sz h = slots + xx_sz h' → (as ++ t).length = h'.length → va_P D cl (xx_w b cs (as ++ t) h') H' → va_D A (xx_w b cs (as ++ t) h') → va_S A s.heap H' locs' → W p l e R s m args below meth c H' locs' cells' slots' Q (F0 m (pc + 4) L (st'.map (xx_v b (as ++ t))))) :
    W p l e R s m args below meth c H locs cells slots Q (F0 m pc L (st.map (xx_v b as))) := by
  have h1 : (xx_pi st fun k r => xx_pi r fun n r => if n < 0 ∨ k < 0 ∨ 1000 < n.toNatClampNeg ∨ 1000 < k.toNatClampNeg then none else some (.ref h.length :: r, h ++ (.inl (4, .inr (.inr ((List.range n.toNatClampNeg).map fun j => some (h.length + 1 + j)))) :: List.replicate n.toNatClampNeg (.inl (2, .inr (.inl (List.replicate k.toNatClampNeg 0))))))) = some (st', h') := hh
  obtain ⟨k, r, rfl, h2⟩ := xx_pi_inv h1
  obtain ⟨n, r, rfl, h3⟩ := xx_pi_inv h2
  split at h3
  · cases h3
  · rename_i hc9
    have n1 : ¬ n < 0 := fun z => hc9 (Or.inl z)
    have n2 : ¬ k < 0 := fun z => hc9 (Or.inr (Or.inl z))
    have n3 : n.toNatClampNeg ≤ 1000 := Nat.le_of_not_lt (fun z => hc9 (Or.inr (Or.inr (Or.inl z))))
    have n4 : k.toNatClampNeg ≤ 1000 := Nat.le_of_not_lt (fun z => hc9 (Or.inr (Or.inr (Or.inr z))))
    cases h3
    generalize hN : n.toNatClampNeg = N at *
    generalize hM : k.toNatClampNeg = M at *
    have z1 : (h ++ (.inl (4, .inr (.inr ((List.range N).map fun j => some (h.length + 1 + j)))) :: List.replicate N (.inl (2, .inr (.inl (List.replicate M (0 : Int64)))))) : xx_H).length = h.length + 1 + N := by
      rw [List.length_append, List.length_cons, List.length_replicate]
      omega
    have z2 : xx_sz (h ++ (.inl (4, .inr (.inr ((List.range N).map fun j => some (h.length + 1 + j)))) :: List.replicate N (.inl (2, .inr (.inl (List.replicate M (0 : Int64)))))) : xx_H) = xx_sz h + N + N * M := by
      rw [xx_sz_app]
      have y1 : xx_sz (List.replicate N (.inl (2, .inr (.inl (List.replicate M (0 : Int64)))) : xx_E)) = N * M := by
        unfold xx_sz
        rw [List.map_replicate, List.sum_replicate_nat]
        show N * (List.replicate M (0 : Int64)).length = N * M
        rw [List.length_replicate]
      have y2 : xx_sz ((.inl (4, .inr (.inr ((List.range N).map fun j => some (h.length + 1 + j)))) : xx_E) :: List.replicate N (.inl (2, .inr (.inl (List.replicate M (0 : Int64)))))) = N + N * M := by
        unfold xx_sz at y1 ⊢
        rw [List.map_cons, List.sum_cons, y1]
        show ((List.range N).map _).length + N * M = N + N * M
        rw [List.length_map, List.length_range]
      rw [y2]
      omega
    rw [z1] at hRc
    rw [z2] at hRs
    intro T hT X
    obtain ⟨vm₁, cA, comp, fA, fC, X', step⟩ := xm_law X hx hown w1 w2 (show (Cond.arrayOver (.array .long)).before args s = true from w3) (g := F0 m pc L (.int k :: .int n :: r.map (xx_v b as))) rfl (by rw [hb]; exact hd) rfl n1 n2 (by rw [hN]; exact n3) (by rw [hM]; exact n4) (by rw [hN]; omega) (by rw [hN, hM]; omega)
    rw [hN, hM] at X' step
    have eA : cA = cs 4 := Option.some.inj (fA.symm.trans (hK.2 4 _ rfl).2)
    have eC : comp = cs 2 := Option.some.inj (fC.symm.trans (hK.2 2 _ rfl).2)
    subst eA
    subst eC
    have hTh : (T.setVm vm₁).heap = H := hT
    obtain ⟨f1, f2, -, -, f5⟩ := xm_f (T.setVm vm₁) (cs 4) (cs 2) N M N
    generalize hF : xm_s (T.setVm vm₁) (cs 4) (cs 2) N M N = F at *
    rw [hTh] at f1 f2 f5
    have hold : ∀ x : Nat, x < H.size → F.heap[x]? = H[x]? := fun x hx9 => by rw [f5 x (by omega), if_pos hx9]
    have hrw : ∀ j : Nat, j < N → F.heap[H.size + 1 + j]? = some (xm_r (cs 2) M) := fun j hj => by rw [f5 _ (by omega), if_neg (by omega), if_pos (by omega)]
    have hlt : ∀ (i : Nat) (x : Nat × va_E), (xx_w b cs as h)[i]? = some x → x.1 < H.size := fun i x hi => (hP i x hi).lt
    have tl : (H.size :: (List.range N).map (fun j => H.size + 1 + j)).length = 1 + N := by rw [List.length_cons, List.length_map, List.length_range]; omega
    have e0 : xx_w b cs (as ++ (H.size :: (List.range N).map (fun j => H.size + 1 + j))) (h ++ (.inl (4, .inr (.inr ((List.range N).map fun j => some (h.length + 1 + j)))) :: List.replicate N (.inl (2, .inr (.inl (List.replicate M (0 : Int64))))))) = xx_w b cs as h ++ ((H.size :: (List.range N).map (fun j => H.size + 1 + j)).zip ((.inl (4, .inr (.inr ((List.range N).map fun j => some (h.length + 1 + j)))) : xx_E) :: List.replicate N (.inl (2, .inr (.inl (List.replicate M (0 : Int64))))))).map (fun q => (q.1, xx_e b cs (as ++ (H.size :: (List.range N).map (fun j => H.size + 1 + j))) q.2)) := xx_w_app hl ho
    -- the new cells by their places
    have new0 : ∀ (i : Nat) (x : Nat × va_E), (((H.size :: (List.range N).map (fun j => H.size + 1 + j)).zip ((.inl (4, .inr (.inr ((List.range N).map fun j => some (h.length + 1 + j)))) : xx_E) :: List.replicate N (.inl (2, .inr (.inl (List.replicate M (0 : Int64))))))).map (fun q => (q.1, xx_e b cs (as ++ (H.size :: (List.range N).map (fun j => H.size + 1 + j))) q.2)))[i]? = some x → i ≤ N ∧ x.1 = H.size + i ∧ va_at D cl x F.heap := fun i x hi => by
      rw [List.getElem?_map] at hi
      cases hz : ((H.size :: (List.range N).map (fun j => H.size + 1 + j)).zip ((.inl (4, .inr (.inr ((List.range N).map fun j => some (h.length + 1 + j)))) : xx_E) :: List.replicate N (.inl (2, .inr (.inl (List.replicate M (0 : Int64)))))))[i]? with
      | none => rw [hz] at hi; cases hi
      | some y =>
        rw [hz] at hi
        cases hi
        obtain ⟨y1, y2⟩ := List.getElem?_zip_eq_some.mp hz
        cases i with
        | zero =>
          rw [List.getElem?_cons_zero] at y1 y2
          obtain ⟨a9, e9⟩ := y
          cases y1
          cases y2
          refine ⟨Nat.zero_le _, rfl, ?_⟩
          show F.heap[H.size]? = some (arrV (cs 4) ((List.range N).map fun j => some (h.length + 1 + j)).length (fun j => va_rf ((((List.range N).map fun j => some (h.length + 1 + j)).getD j none).map (fun i => (as ++ (H.size :: (List.range N).map (fun j => H.size + 1 + j))).getD i 0))))
          rw [f2, List.length_map, List.length_range]
          unfold xm_o
          refine congrArg some (congrArg (arrV (cs 4) N) (funext fun j => congrArg va_rf ?_))
          by_cases hj : j < N
          · rw [if_pos hj, List.getD_eq_getElem?_getD, List.getElem?_map, List.getElem?_range hj]
            show some (H.size + 1 + j) = some ((as ++ _).getD (h.length + 1 + j) 0)
            rw [List.getD_eq_getElem?_getD, List.getElem?_append_right (by omega), show h.length + 1 + j - as.length = j + 1 by omega, List.getElem?_cons_succ, List.getElem?_map, List.getElem?_range hj]
            rfl
          · rw [if_neg hj, List.getD_eq_getElem?_getD, List.getElem?_eq_none (by rw [List.length_map, List.length_range]; omega)]
            rfl
        | succ j =>
          rw [List.getElem?_cons_succ] at y1 y2
          have hj : j < N := by
            have := (List.getElem?_eq_some_iff.mp y2).1
            rw [List.length_replicate] at this
            exact this
          rw [List.getElem?_map, List.getElem?_range hj] at y1
          rw [List.getElem?_replicate, if_pos hj] at y2
          obtain ⟨a9, e9⟩ := y
          cases y1
          cases y2
          refine ⟨by omega, by show H.size + 1 + j = H.size + (j + 1); omega, ?_⟩
          show F.heap[H.size + 1 + j]? = some (arrV (cs 2) (List.replicate M (0 : Int64)).length (fun i => .long ((List.replicate M (0 : Int64)).getD i 0)))
          rw [hrw j hj, List.length_replicate]
          unfold xm_r
          refine congrArg some (congrArg (arrV (cs 2) M) (funext fun i => ?_))
          show Value.long 0 = _
          rw [List.getD_eq_getElem?_getD, List.getElem?_replicate]
          split <;> rfl
    have hP2 : va_P D cl (xx_w b cs (as ++ (H.size :: (List.range N).map (fun j => H.size + 1 + j))) (h ++ (.inl (4, .inr (.inr ((List.range N).map fun j => some (h.length + 1 + j)))) :: List.replicate N (.inl (2, .inr (.inl (List.replicate M (0 : Int64)))))))) F.heap := by
      rw [e0]
      exact va_P.app (hP.kept (fun i x hi => hold x.1 (hlt i x hi))) (fun i x hi => (new0 i x hi).2.2)
    have hD2 : va_D A (xx_w b cs (as ++ (H.size :: (List.range N).map (fun j => H.size + 1 + j))) (h ++ (.inl (4, .inr (.inr ((List.range N).map fun j => some (h.length + 1 + j)))) :: List.replicate N (.inl (2, .inr (.inl (List.replicate M (0 : Int64)))))))) := by
      rw [e0]
      refine va_D.app hD ⟨fun i j x y hi hj hxy => ?_, fun i x hi => ?_⟩ (fun i j x y hi hj hxy => ?_)
      · have a1 := (new0 i x hi).2.1
        have a2 := (new0 j y hj).2.1
        omega
      · rw [(new0 i x hi).2.1]
        exact hA _ (by have := hS.1; omega)
      · have a1 := hlt i x hi
        have a2 := (new0 j y hj).2.1
        omega
    have hS2 : va_S A s.heap F.heap locs := ⟨by have := hS.1; omega, fun x g1 g2 => by rw [hold x (by have := hS.1; omega)]; exact hS.2.1 x g1 g2, hS.2.2⟩
    have k8 := kk (H.size :: (List.range N).map (fun j => H.size + 1 + j)) F.heap locs (cells + 1 + N) (slots + N + N * M) (by rw [z1]; omega) (by rw [z2]; omega) (by rw [List.length_append, tl, z1, hl]; omega) hP2 hD2 hS2
    have e7 : (Value.ref h.length :: r).map (xx_v b (as ++ (H.size :: (List.range N).map (fun j => H.size + 1 + j)))) = .ref H.size :: r.map (xx_v b as) := by
      rw [List.map_cons, xx_st_app (st := r) (sc := sc) (by rw [hl]; exact xx_oks_tl (xx_oks_tl hs))]
      show Value.ref ((as ++ _).getD h.length 0) :: _ = _
      rw [← hl, List.getD_eq_getElem?_getD, List.getElem?_append_right (Nat.le_refl _), Nat.sub_self]
      rfl
    rw [e7] at k8
    obtain ⟨t3, a1, b1⟩ := k8 F rfl X'
    refine ⟨t3, step t3 ?_, b1⟩
    rw [hT]
    exact a1
end XM
/-! ===== xx_: the machine does what xx_hp says ===== -/
/-- what the tables say of the classes -/
def xx_cls (P : xx_P) (cl : List vw_C) (Ts : List Cond) : Prop := ∀ (ci : Nat) (C : String) (T : u_T) (N : Nat), cl[ci]? = some (C, T, N) →
  (∀ w ∈ u_ws C T N, w ∈ Ts) ∧ (P.2.1 ci).length = N ∧ (∀ k, k < N → parseFieldDescriptor (T k).2.2.1 = some ((P.2.1 ci).getD k .int)) ∧ (∀ a, a < N → ∀ b, b < N → a ≠ b → (T a).2.1 ≠ (T b).2.1)
/-- a field's word: its own class's, or a nest mate's -/
def xx_lnk (own : String) (k : Nat) (f : String × String × String × Bool) (nest : Bool) (Ts Nw : List Cond) : Prop := match nest with
  | true => ∃ host, Cond.fieldLinkNest own k f.1 f.2.1 f.2.2.1 host ∈ Nw
  | false => Cond.fieldLink own k f.1 f.2.1 f.2.2.1 ∈ Ts
/-- a constant's reference: a static field's, or a String's. These stand under the instruction nop in the tables -/
def xx_rowK (cc : ByteArray) (own : String) (Ts : List Cond) (len q pc : Nat) : Prop := (∃ k C n d, decode cc pc = .ok (.getstatic k, 3) ∧ len = 3 ∧ xx_kz q = some (C, n, d) ∧ Cond.fieldLink own k C n d ∈ Ts) ∨ (q = 3 ∧ len = 2 ∧ decode cc pc = .ok (.ldc 69, 2) ∧ own = "DiagramOdds$Tape")
def xx_dcd (i : Instr) (a b : Prop) : Prop := match i with
  | .nop => a
  | _ => b
/-- what the tables say of an instruction that touches the heap; ini: the method is a constructor -/
def xx_rowH (cl : List vw_C) (Z : xx_Z) (cc : ByteArray) (own : String) (ini : Bool) (Ts Nw : List Cond) (i : Instr) (len q : Nat) (nest : Bool) (pc : Nat) : Prop := xx_dcd i (xx_rowK cc own Ts len q pc) (decode cc pc = .ok (i, len)) ∧ match i with
  | .nop => True
  | .getfield k => len = 3 ∧ (4032 ≤ q → nest = false) ∧ ∃ C T N, xx_cg cl (q / 64) = some (C, T, N) ∧ q % 64 < N ∧ xx_lnk own k (T (q % 64)) nest Ts Nw
  | .putfield k => len = 3 ∧ ∃ C T N, cl[q / 64]? = some (C, T, N) ∧ q % 64 < N ∧ xx_lnk own k (T (q % 64)) nest Ts Nw ∧ ((T (q % 64)).2.2.2 = false ∨ (nest = false ∧ ini = true ∧ (T (q % 64)).2.2.2 = true ∧ (T (q % 64)).1 = own))
  | .new k => len = 3 ∧ ∃ C T N, cl[q]? = some (C, T, N) ∧ Cond.classLink own k C ∈ Ts ∧ Cond.instantiable C N ∈ Ts ∧ Cond.initialized C ∈ Ts
  | .newarray t => len = 2 ∧ Cond.arrayClass (newarray.typeOf t) ∈ Ts
  | .multianewarray k d => len = 4 ∧ d = 2 ∧ Cond.classLink own k "[[J" ∈ Ts ∧ Cond.arrayClass .long ∈ Ts ∧ Cond.arrayOver (.array .long) ∈ Nw
  | .getstatic k => len = 3 ∧ ∃ C n d, (C, n, d, nI q) ∈ Z ∧ Cond.fieldLink own k C n d ∈ Ts
  | _ => len = 1
section XH
variable {p : Program} {l : Launch} {e : Env} {R : Room} {s : State} {m : MethodId} {args : Array Value} {below : List Frame} {meth : Method} {c : Code} {H : Heap} {locs : List Loc} {cells slots : Nat} {Q : State → Prop}
variable {cc : ByteArray} {own : String} {Ts Nw : List Cond} {b : xx_B} {cs : Nat → ClassId} {as : List Nat} {D : va_G} {cl : List vw_C} {A : Nat → Prop}
set_option maxHeartbeats 4000000 in
theorem xx_hp_sound {P : xx_P} {Z : xx_Z} {ini sc nest : Bool} (hx : p.tables.exec = Jvm.exec) (hb : c.code = cc) (hown : s.vm.findClass own = some m.cls) (hts : ∀ w ∈ Ts, w.before args s = true) (hNw : ∀ w ∈ Nw, va_Nw w s) (hini : ini = true → meth.name = "<init>") (hC : xx_cls P cl Ts) {i : Instr} {len q pc : Nat} (hr : xx_rowH cl Z cc own ini Ts Nw i len q nest pc)
    (hZ : xx_ZE cl Z b A s s.heap) (hX : sc = true → ∃ b0, b 0 = some b0 ∧ va_X b0 P.2.2.length (fun j => P.2.2.getD j 0) s s.heap ∧ b0 < s.heap.size ∧ ¬ A b0)
    (hK : va_K D cl (xx_ty cs) s) {h h' : xx_H} {st st' : List Value} (hP : va_P D cl (xx_w b cs as h) H) (hD : va_D A (xx_w b cs as h)) (hS : va_S A s.heap H locs) (hA : ∀ q, s.heap.size ≤ q → A q) (hl : as.length = h.length) (ho : xx_okh h) (hs : xx_oks h.length sc st)
    (hh : xx_hp P i q st h = some (st', h')) (hRc : cells + h'.length ≤ R.cells + h.length) (hRs : slots + xx_sz h' ≤ R.slots + xx_sz h) {L : Array Slot}
    (kk : ∀ (t : List Nat) (H' : Heap) (locs' : List Loc) (cells' slots' : Nat), cells' + h.length = cells + h'.length → slots' + xx_sz h = slots + xx_sz h' → (as ++ t).length = h'.length → va_P D cl (xx_w b cs (as ++ t) h') H' → va_D A (xx_w b cs (as ++ t) h') → va_S A s.heap H' locs' → W p l e R s m args below meth c H' locs' cells' slots' Q (F0 m (pc + len) L (st'.map (xx_v b (as ++ t))))) :
    W p l e R s m args below meth c H locs cells slots Q (F0 m pc L (st.map (xx_v b as))) := by
  obtain ⟨hd, hr⟩ := hr
  have k0 : h' = h → W p l e R s m args below meth c H locs cells slots Q (F0 m (pc + len) L (st'.map (xx_v b as))) := fun e => by
    subst e
    have := kk [] H locs cells slots rfl rfl (by rw [List.append_nil]; exact hl) (by rw [List.append_nil]; exact hP) (by rw [List.append_nil]; exact hD) hS
    rw [List.append_nil] at this
    exact this
  have k1 : ∀ {a : Nat} {e0 e1 : xx_E}, h[a]? = some e0 → xx_es e1 = xx_es e0 → h' = h.set a e1 → ∀ (H1 : Heap) (locs1 : List Loc), va_P D cl ((xx_w b cs as h).set a (as.getD a 0, xx_e b cs as e1)) H1 → va_D A ((xx_w b cs as h).set a (as.getD a 0, xx_e b cs as e1)) → va_S A s.heap H1 locs1 → W p l e R s m args below meth c H1 locs1 cells slots Q (F0 m (pc + len) L (st'.map (xx_v b as))) := fun {a} {e0} {e1} h0 hz e H1 locs1 q1 q2 q3 => by
    subst e
    have hi := (List.getElem?_eq_some_iff.mp h0).1
    rw [xx_w_set hl hi] at q1 q2
    have := kk [] H1 locs1 cells slots (by rw [List.length_set]) (by rw [xx_sz_set h0 hz]) (by rw [List.append_nil, List.length_set]; exact hl) (by rw [List.append_nil]; exact q1) (by rw [List.append_nil]; exact q2) q3
    rw [List.append_nil] at this
    exact this
  cases i with
  | nop =>
    have hh : (if q = 0 then none else some (.retAddr q :: st, h)) = some (st', h') := hh
    split at hh
    · cases hh
    · cases hh
      have k9 : W p l e R s m args below meth c H locs cells slots Q (F0 m (pc + len) L (xx_bv (b q) :: st.map (xx_v b as))) := k0 rfl
      rcases hd with ⟨k, C, n, d, hd, rfl, hz, hln⟩ | ⟨rfl, rfl, hd, rfl⟩
      · exact va_gets hx hb (hZ.2.st hz) hS hown (hts _ hln) (fun _ z => z) hd k9
      · obtain ⟨-, ⟨a3, c3, e3, -, r3, -⟩, -⟩ := hZ.2
        rw [e3] at k9
        exact va_ldcS hx hb hown r3 hd k9
  | getfield k =>
    obtain ⟨rfl, hnn, C, T, N, hcl, hk, hln⟩ := hr
    rcases xx_gf_inv hh with ⟨k9, r, v, rfl, hv, h4⟩ | hh
    · cases h4
      obtain ⟨-, ⟨a3, c3, e3, e4, -, -, f3, g3, -⟩, -⟩ := hZ.2
      have e9 : xx_v b as (.retAddr 3) = .ref a3 := by show xx_bv (b 3) = _; rw [e3]; rfl
      obtain ⟨rfl, ⟨rfl, rfl⟩ | ⟨rfl, rfl⟩⟩ := xx_kf_inv hv
      · have hnn := hnn (by decide)
        subst hnn
        cases (show some ("java/lang/String", xx_sT, 2) = some (C, T, N) from hcl)
        have hln : Cond.fieldLink own k "java/lang/String" "value" "[B" ∈ Ts := hln
        have k9 : W p l e R s m args below meth c H locs cells slots Q (F0 m (pc + 3) L (xx_bv (b 4) :: r.map (xx_v b as))) := k0 rfl
        rw [e4] at k9
        rw [List.map_cons, e9]
        exact vk_getf hx hb g3 hS hown (hts _ hln) (fun _ z => z) hd k9
      · have hnn := hnn (by decide)
        subst hnn
        cases (show some ("java/lang/String", xx_sT, 2) = some (C, T, N) from hcl)
        have hln : Cond.fieldLink own k "java/lang/String" "coder" "B" ∈ Ts := hln
        rw [List.map_cons, e9]
        exact vk_getf hx hb f3 hS hown (hts _ hln) (fun _ z => z) hd (k0 rfl)
    obtain ⟨a, r, rfl, h2⟩ := xx_pr_inv hh
    obtain ⟨t, fs, hg, h3⟩ := xx_ob_inv h2
    split at h3
    · rename_i hc
      subst hc
      rw [xx_cg_ob hZ.2.1 hP (xx_w_at hl hg)] at hcl
      obtain ⟨v, hv, h4⟩ := xx_bind_inv h3
      cases h4
      have hv2 : (fs.map (xx_v b as))[q % 64]? = some (xx_v b as v) := by rw [List.getElem?_map, hv]; rfl
      cases nest with
      | true =>
        obtain ⟨host, hln⟩ := hln
        exact va_getN hx hb hts (hC _ _ _ _ hcl).1 hown hK hP a (xx_w_at hl hg) hcl (q % 64) hk (va_Nw.use rfl (hNw _ hln)) (fun _ z => z) hv2 hd (k0 rfl)
      | false => exact va_get hx hb hts (hC _ _ _ _ hcl).1 hown hK hP a (xx_w_at hl hg) hcl (q % 64) hk (hts _ hln) (fun _ z => z) hv2 hd (k0 rfl)
    · cases h3
  | putfield k =>
    obtain ⟨rfl, C, T, N, hcl, hk, hln, hfin⟩ := hr
    cases st with
    | nil => cases hh
    | cons v r =>
      obtain ⟨a, r, rfl, h2⟩ := xx_pr_inv hh
      obtain ⟨t, fs, hg, h3⟩ := xx_ob_inv h2
      split at h3
      · rename_i hc
        obtain ⟨rfl, hc2, hc3⟩ := hc
        cases h3
        obtain ⟨ty, hty, hft⟩ := xx_any hc3
        obtain ⟨c1, c2, c3, c4⟩ := hC _ _ _ _ hcl
        have hpd : parseFieldDescriptor (T (q % 64)).2.2.1 = some ty := by rw [c3 _ hk, List.getD_eq_getElem?_getD, hty]; rfl
        obtain ⟨n1, n2, -⟩ := xx_fit_ok (b := b) (as := as) hft
        have e9 : ((q / 64, (fs.map (xx_v b as)).set (q % 64) (xx_v b as v)) : Nat × List Value) = (q / 64, (fs.set (q % 64) v).map (xx_v b as)) := by rw [List.map_set]
        have kk9 := k1 (e1 := .inr (q / 64, fs.set (q % 64) v)) hg List.length_set rfl
        rcases hfin with hf | ⟨rfl, hi, hf, ho9⟩
        · cases nest with
          | true =>
            obtain ⟨host, hln⟩ := hln
            exact va_putN hx hb hts c1 _ c3 c4 hown hK hP hD hS a (xx_w_at hl hg) hcl (q % 64) hk (va_Nw.use rfl (hNw _ hln)) (fun _ z => z) hf hpd n1 n2 (by rw [List.length_map]; exact hc2) hd (fun H1 locs1 q1 q2 q3 => kk9 H1 locs1 (by rw [e9] at q1; exact q1) (by rw [e9] at q2; exact q2) q3)
          | false => exact va_put hx hb hts c1 _ c3 c4 hown hK hP hD hS a (xx_w_at hl hg) hcl (q % 64) hk (hts _ hln) (fun _ z => z) hf hpd n1 n2 (by rw [List.length_map]; exact hc2) hd (fun H1 locs1 q1 q2 q3 => kk9 H1 locs1 (by rw [e9] at q1; exact q1) (by rw [e9] at q2; exact q2) q3)
        · exact va_putF hx hb hts c1 _ c3 c4 hown hK hP hD hS a (xx_w_at hl hg) hcl (q % 64) hk (hts _ hln) (fun _ z => z) hf (hini hi) ho9 hpd n1 n2 (by rw [List.length_map]; exact hc2) hd (fun H1 locs1 q1 q2 q3 => kk9 H1 locs1 (by rw [e9] at q1; exact q1) (by rw [e9] at q2; exact q2) q3)
      · cases h3
  | new k =>
    obtain ⟨rfl, C, T, N, hcl, w1, w2, w3⟩ := hr
    cases hh
    obtain ⟨c1, c2, c3, c4⟩ := hC _ _ _ _ hcl
    have hfs : ∀ j, j < N → defaultValue ((fun k => (P.2.1 q).getD k .int) j) = vp_V ((P.2.1 q).map defaultValue) j := fun j hj => by
      rw [← c2] at hj
      show defaultValue ((P.2.1 q).getD j .int) = ((P.2.1 q).map defaultValue).getD j .null
      rw [List.getD_eq_getElem?_getD, List.getD_eq_getElem?_getD, List.getElem?_map, List.getElem?_eq_getElem hj]
      rfl
    have z1 : (h ++ [(.inr (q, (P.2.1 q).map defaultValue) : xx_E)]).length = h.length + 1 := List.length_append
    have z2 : xx_sz (h ++ [(.inr (q, (P.2.1 q).map defaultValue) : xx_E)]) = xx_sz h + N := by
      rw [xx_sz_app]
      show xx_sz h + (((P.2.1 q).map defaultValue).length + 0) = _
      rw [List.length_map, c2]
      rfl
    rw [z1] at hRc
    rw [z2] at hRs
    refine va_new hx hb hts c1 (fun k => (P.2.1 q).getD k .int) c3 hown (hts _ w1) (hts _ w2) (hts _ w3) hK hP hD hS hA hcl (fs := (P.2.1 q).map defaultValue) hfs (by omega) (by omega) hd (fun q1 H1 hP1 hD1 hS1 => ?_)
    have e9 : xx_w b cs as h ++ [(q1, .inr (q, (P.2.1 q).map defaultValue))] = xx_w b cs (as ++ [q1]) (h ++ [(.inr (q, (P.2.1 q).map defaultValue) : xx_E)]) := by
      rw [xx_w_app hl ho]
      show _ = _ ++ [(q1, (Sum.inr (q, ((P.2.1 q).map defaultValue).map (xx_v b (as ++ [q1]))) : va_E))]
      rw [List.map_map, show (xx_v b (as ++ [q1]) ∘ defaultValue) = defaultValue from funext fun ty => xx_v_def _ _ ty]
    rw [e9] at hP1 hD1
    have e8 : as.getD h.length 0 = as.getD h.length 0 := rfl
    have k9 := kk [q1] H1 locs (cells + 1) (slots + N) (by rw [z1]; omega) (by rw [z2]; omega) (by rw [List.length_append, hl, z1]; rfl) hP1 hD1 hS1
    have e7 : (Value.ref h.length :: st).map (xx_v b (as ++ [q1])) = .ref q1 :: st.map (xx_v b as) := by
      rw [List.map_cons, xx_st_app (by rw [hl]; exact hs)]
      show Value.ref ((as ++ [q1]).getD h.length 0) :: _ = _
      rw [← hl, List.getD_eq_getElem?_getD, List.getElem?_append_right (Nat.le_refl _), Nat.sub_self]
      rfl
    rw [e7] at k9
    exact k9
  | newarray t =>
    obtain ⟨rfl, w1⟩ := hr
    obtain ⟨n, r, rfl, h2⟩ := xx_pi_inv hh
    have hs2 := xx_oks_tl hs
    split at h2
    · cases h2
    · rename_i hn
      obtain ⟨cv, hc, h4⟩ := xx_bind_inv h2
      cases h4
      have hn1 : ¬ n < 0 := fun z => hn (Or.inl z)
      have hn2 : n.toNatClampNeg ≤ 1000000 := Nat.le_of_not_lt (fun z => hn (Or.inr z))
      have z1 : (h ++ [cv]).length = h.length + 1 := List.length_append
      rw [z1] at hRc
      have go : ∀ (ti : Nat) (a0 : vp_A) (ty : FieldType), newarray.typeOf t = ty → (xx_ty cs)[ti]? = some (cs ti, ty) → (∀ (as2 : List Nat), xx_e b cs as2 cv = .inl (cs ti, a0)) → xx_es cv = n.toNatClampNeg → (∀ cA : ClassId, vp_cell cA a0 = arrV cA n.toNatClampNeg (fun _ => defaultValue ty)) → componentBytes ty ≤ 8 → (∀ cA : ClassId, va_RA s cA ty → s.vm.findClass ("[" ++ ty.toString) = some cA) → W p l e R s m args below meth c H locs cells slots Q (F0 m pc L ((Value.int n :: r).map (xx_v b as))) := fun ti a0 ty ht hti hce hcs hva hcb hra => by
        have z2 : xx_sz (h ++ [cv]) = xx_sz h + n.toNatClampNeg := by
          rw [xx_sz_app, ← hcs]
          rfl
        rw [z2] at hRs
        refine va_newa hx hb (hts _ w1) ht hK hP hD hS hA hva hn1 rfl (by have := Nat.mul_le_mul hn2 hcb; omega) (by omega) (by omega) hd (fun q1 cA H1 hK1 hP1 hD1 hS1 => ?_)
        have hcA : cA = cs ti := by
          have g1 := hra _ (hK1.2 5 (cA, ty) (by rfl)).2
          have g2 := hra _ (hK.2 ti _ hti).2
          exact Option.some.inj (g1.symm.trans g2)
        subst hcA
        have e9 : xx_w b cs as h ++ [(q1, .inl (cs ti, a0))] = xx_w b cs (as ++ [q1]) (h ++ [cv]) := by
          rw [xx_w_app hl ho, ← hce (as ++ [q1])]
          rfl
        rw [e9] at hP1 hD1
        have k9 := kk [q1] H1 locs (cells + 1) (slots + n.toNatClampNeg) (by rw [z1]; omega) (by rw [z2]; omega) (by rw [List.length_append, hl, z1]; rfl) hP1 hD1 hS1
        have e7 : (Value.ref h.length :: r).map (xx_v b (as ++ [q1])) = .ref q1 :: r.map (xx_v b as) := by
          rw [List.map_cons, xx_st_app (by rw [hl]; exact hs2)]
          show Value.ref ((as ++ [q1]).getD h.length 0) :: _ = _
          rw [← hl, List.getD_eq_getElem?_getD, List.getElem?_append_right (Nat.le_refl _), Nat.sub_self]
          rfl
        rw [e7] at k9
        exact k9
      have r0 : ∀ (N : Nat) (x : Int32), (fun j => (List.replicate N x).getD j x) = fun _ => x := fun N x => by
        funext j
        rw [List.getD_eq_getElem?_getD, List.getElem?_replicate]
        split <;> rfl
      have r1 : ∀ (N : Nat) (x : Int64), (fun j => (List.replicate N x).getD j x) = fun _ => x := fun N x => by
        funext j
        rw [List.getD_eq_getElem?_getD, List.getElem?_replicate]
        split <;> rfl
      cases t <;> cases hc
      · exact go 1 (n.toNatClampNeg, .inl (fun _ => 0)) .boolean rfl rfl (fun as2 => by show (Sum.inl (cs 1, (List.replicate _ _).length, Sum.inl _) : va_E) = _; rw [List.length_replicate, r0]) List.length_replicate (fun _ => rfl) (by decide) (fun _ z => z)
      · exact go 3 (n.toNatClampNeg, .inl (fun _ => 0)) .byte rfl rfl (fun as2 => by show (Sum.inl (cs 3, (List.replicate _ _).length, Sum.inl _) : va_E) = _; rw [List.length_replicate, r0]) List.length_replicate (fun _ => rfl) (by decide) (fun _ z => z)
      · exact go 0 (n.toNatClampNeg, .inl (fun _ => 0)) .int rfl rfl (fun as2 => by show (Sum.inl (cs 0, (List.replicate _ _).length, Sum.inl _) : va_E) = _; rw [List.length_replicate, r0]) List.length_replicate (fun _ => rfl) (by decide) (fun _ z => z)
      · exact go 2 (n.toNatClampNeg, .inr (.inl (fun _ => 0))) .long rfl rfl (fun as2 => by show (Sum.inl (cs 2, (List.replicate _ _).length, Sum.inr (Sum.inl _)) : va_E) = _; rw [List.length_replicate, r1]) List.length_replicate (fun _ => rfl) (by decide) (fun _ z => z)
  | arraylength =>
    subst hr
    have h2 : xx_aln P.2.2 st h = some (st', h') := hh
    unfold xx_aln at h2
    split at h2
    · cases h2
      obtain ⟨b0, x0, x1, x2, x3⟩ := hX (hs _ List.mem_cons_self rfl)
      rw [List.map_cons, show xx_v b as (.retAddr 0) = .ref b0 by show xx_bv (b 0) = _; rw [x0]; rfl]
      exact va_slen hx hb x1 x2 x3 hS hd (k0 rfl)
    · rename_i k9 r
      obtain ⟨l9, hl9, h3⟩ := xx_bind_inv h2
      cases h3
      obtain ⟨a9, e9, t9⟩ := hZ.2.tab hl9
      rw [List.map_cons, show xx_v b as (.retAddr (k9 + 1)) = .ref a9 by show xx_bv (b (k9 + 1)) = _; rw [e9]; rfl]
      exact va_tlen hx hb t9 hS rfl hd (k0 rfl)
    · obtain ⟨a, r, rfl, h3⟩ := xx_pr_inv h2
      obtain ⟨t, c9, hg, h4⟩ := xx_ar_inv h3
      split at h4
      · rename_i ht
        cases h4
        obtain ⟨ty, hty⟩ : ∃ ty, (xx_ty cs)[t]? = some (cs t, ty) := by
          match t, ht with
          | 0, _ => exact ⟨_, rfl⟩
          | 1, _ => exact ⟨_, rfl⟩
          | 2, _ => exact ⟨_, rfl⟩
          | 3, _ => exact ⟨_, rfl⟩
          | 4, _ => exact ⟨_, rfl⟩
        match c9, hg with
        | .inl l9, hg => exact va_alen hx hb hK hP a t (xx_w_at hl hg) hty rfl hd (k0 rfl)
        | .inr (.inl l9), hg => exact va_alen hx hb hK hP a t (xx_w_at hl hg) hty rfl hd (k0 rfl)
        | .inr (.inr l9), hg => exact va_alen hx hb hK hP a t (xx_w_at hl hg) hty rfl hd (k0 rfl)
      · cases h4
  | iaload =>
    subst hr
    obtain ⟨i9, r, rfl, h2⟩ := xx_pi_inv hh
    have gd : ∀ {l9 : List Int32} {x9 : Int32} {j9 : Nat}, l9[j9]? = some x9 → l9.getD j9 0 = x9 := fun {l9} {x9} {j9} z => by rw [List.getD_eq_getElem?_getD, z]; rfl
    split at h2
    · obtain ⟨x, hx9, h4⟩ := xx_bind_inv h2
      cases h4
      obtain ⟨b0, x0, x1, x2, x3⟩ := hX (hs _ (List.mem_cons_of_mem _ List.mem_cons_self) rfl)
      rw [List.map_cons, List.map_cons, show xx_v b as (.retAddr 0) = .ref b0 by show xx_bv (b 0) = _; rw [x0]; rfl]
      obtain ⟨v1, v2⟩ := xx_at_inv hx9
      have k9 := k0 rfl
      rw [← gd v2] at k9
      exact va_sld hx hb x1 x2 x3 hS v1 hd k9
    · obtain ⟨a, r, rfl, h3⟩ := xx_pr_inv h2
      obtain ⟨t, c9, hg, h4⟩ := xx_ar_inv h3
      split at h4
      · rename_i ht
        subst ht
        obtain ⟨l9, rfl, h5⟩ := xx_int_inv h4
        obtain ⟨x, hx9, h6⟩ := xx_bind_inv h5
        cases h6
        obtain ⟨v1, v2⟩ := xx_at_inv hx9
        have k9 := k0 rfl
        rw [← gd v2] at k9
        exact va_iald hx hb hK hP a 0 (xx_w_at hl hg) rfl v1 hd k9
      · cases h4
  | baload =>
    subst hr
    obtain ⟨i9, r, rfl, h2⟩ := xx_pi_inv hh
    have gd : ∀ {l9 : List Int32} {x9 : Int32} {j9 : Nat}, l9[j9]? = some x9 → l9.getD j9 0 = x9 := fun {l9} {x9} {j9} z => by rw [List.getD_eq_getElem?_getD, z]; rfl
    split at h2
    · rename_i k9 r
      obtain ⟨l9, hl9, h3⟩ := xx_bind_inv h2
      obtain ⟨x, hx9, h4⟩ := xx_bind_inv h3
      cases h4
      obtain ⟨a9, e9, t9⟩ := hZ.2.tab hl9
      obtain ⟨v1, v2⟩ := xx_at_inv hx9
      rw [List.map_cons, List.map_cons, show xx_v b as (.retAddr k9) = .ref a9 by show xx_bv (b k9) = _; rw [e9]; rfl]
      exact va_tb hx hb t9 hS v1 (congrArg Value.int (gd v2)) hd (k0 rfl)
    obtain ⟨a, r, rfl, h3⟩ := xx_pr_inv h2
    obtain ⟨t, c9, hg, h4⟩ := xx_ar_inv h3
    split at h4
    · rename_i ht
      obtain ⟨l9, rfl, h5⟩ := xx_int_inv h4
      obtain ⟨x, hx9, h6⟩ := xx_bind_inv h5
      cases h6
      obtain ⟨v1, v2⟩ := xx_at_inv hx9
      have k9 := k0 rfl
      rw [← gd v2] at k9
      rcases ht with rfl | rfl
      · exact va_zald hx hb hK hP a 1 (xx_w_at hl hg) rfl v1 hd k9
      · exact va_bald hx hb hK hP a 3 (xx_w_at hl hg) rfl v1 hd k9
    · cases h4
  | laload =>
    subst hr
    obtain ⟨i9, r, rfl, h2⟩ := xx_pi_inv hh
    have gd : ∀ {l9 : List Int64} {x9 : Int64} {j9 : Nat}, l9[j9]? = some x9 → l9.getD j9 0 = x9 := fun {l9} {x9} {j9} z => by rw [List.getD_eq_getElem?_getD, z]; rfl
    obtain ⟨a, r, rfl, h3⟩ := xx_pr_inv h2
    obtain ⟨t, c9, hg, h4⟩ := xx_ar_inv h3
    split at h4
    · rename_i ht
      subst ht
      obtain ⟨l9, rfl, h5⟩ := xx_lng_inv h4
      obtain ⟨x, hx9, h6⟩ := xx_bind_inv h5
      cases h6
      obtain ⟨v1, v2⟩ := xx_at_inv hx9
      have k9 := k0 rfl
      rw [← gd v2] at k9
      exact va_lald hx hb hK hP a 2 (xx_w_at hl hg) rfl v1 hd k9
    · cases h4
  | aaload =>
    subst hr
    obtain ⟨i9, r, rfl, h2⟩ := xx_pi_inv hh
    obtain ⟨a, r, rfl, h3⟩ := xx_pr_inv h2
    obtain ⟨t, c9, hg, h4⟩ := xx_ar_inv h3
    split at h4
    · rename_i ht
      subst ht
      obtain ⟨l9, rfl, h5⟩ := xx_rfs_inv h4
      obtain ⟨o9, ho9, h6⟩ := xx_bind_inv h5
      obtain ⟨x, rfl, h7⟩ := xx_bind_inv h6
      cases h7
      obtain ⟨v1, v2⟩ := xx_at_inv ho9
      have k9 := k0 rfl
      have hv9 : l9.getD i9.toNatClampNeg none = some x := by rw [List.getD_eq_getElem?_getD, v2]; rfl
      have hlt : i9.toNatClampNeg < l9.length := Nat.not_le.mp fun q => v1 (Or.inr q)
      refine W.aald (v := .ref (as.getD x 0)) (ty := .array .long) hx hb (hP a _ (xx_w_at hl hg)) ((hK.2 4 _ rfl).1 l9.length (fun j => va_rf ((l9.getD j none).map (fun i => as.getD i 0)))) rfl (fun q => by cases q) (by show ¬ (i9 < 0 ∨ (arrV _ _ _).slots.size ≤ _); rw [arrV_size]; exact v1) (by show (arrV _ _ _).slots[_]? = _; rw [arrV_read _ _ hlt]; show some (va_rf ((l9.getD i9.toNatClampNeg none).map _)) = _; rw [hv9]; rfl) rfl rfl hd k9
    · cases h4
  | iastore =>
    subst hr
    obtain ⟨x, r, rfl, h2⟩ := xx_pi_inv hh
    obtain ⟨i9, r, rfl, h2⟩ := xx_pi_inv h2
    obtain ⟨a, r, rfl, h3⟩ := xx_pr_inv h2
    obtain ⟨t, c9, hg, h4⟩ := xx_ar_inv h3
    split at h4
    · rename_i ht
      subst ht
      obtain ⟨l9, rfl, h5⟩ := xx_int_inv h4
      obtain ⟨y, hy, h6⟩ := xx_bind_inv h5
      cases h6
      obtain ⟨v1, v2, rfl⟩ := xx_put_inv hy
      have k9 := k1 (e1 := .inl (0, .inl (l9.set i9.toNatClampNeg x))) hg List.length_set rfl
      exact va_iast hx hb hK hP hD hS a 0 (xx_w_at hl hg) rfl v1 hd (fun H1 locs1 q1 q2 q3 => k9 H1 locs1 (by rw [xx_upd v2, ← List.length_set (i := i9.toNatClampNeg) (a := x)] at q1; exact q1) (by rw [xx_upd v2, ← List.length_set (i := i9.toNatClampNeg) (a := x)] at q2; exact q2) q3)
    · cases h4
  | bastore =>
    subst hr
    obtain ⟨x, r, rfl, h2⟩ := xx_pi_inv hh
    obtain ⟨i9, r, rfl, h2⟩ := xx_pi_inv h2
    obtain ⟨a, r, rfl, h3⟩ := xx_pr_inv h2
    obtain ⟨t, c9, hg, h4⟩ := xx_ar_inv h3
    split at h4
    · rename_i ht
      subst ht
      obtain ⟨l9, rfl, h5⟩ := xx_int_inv h4
      obtain ⟨y, hy, h6⟩ := xx_bind_inv h5
      cases h6
      obtain ⟨v1, v2, rfl⟩ := xx_put_inv hy
      have k9 := k1 (e1 := .inl (1, .inl (l9.set i9.toNatClampNeg (vp_nar .boolean x)))) hg List.length_set rfl
      exact va_zast hx hb hK hP hD hS a 1 (xx_w_at hl hg) rfl v1 hd (fun H1 locs1 q1 q2 q3 => k9 H1 locs1 (by rw [xx_upd v2, ← List.length_set (i := i9.toNatClampNeg) (a := (vp_nar .boolean x))] at q1; exact q1) (by rw [xx_upd v2, ← List.length_set (i := i9.toNatClampNeg) (a := (vp_nar .boolean x))] at q2; exact q2) q3)
    · split at h4
      · rename_i ht
        subst ht
        obtain ⟨l9, rfl, h5⟩ := xx_int_inv h4
        obtain ⟨y, hy, h6⟩ := xx_bind_inv h5
        cases h6
        obtain ⟨v1, v2, rfl⟩ := xx_put_inv hy
        have k9 := k1 (e1 := .inl (3, .inl (l9.set i9.toNatClampNeg (vp_nar .byte x)))) hg List.length_set rfl
        exact va_bast hx hb hK hP hD hS a 3 (xx_w_at hl hg) rfl v1 hd (fun H1 locs1 q1 q2 q3 => k9 H1 locs1 (by rw [xx_upd v2, ← List.length_set (i := i9.toNatClampNeg) (a := (vp_nar .byte x))] at q1; exact q1) (by rw [xx_upd v2, ← List.length_set (i := i9.toNatClampNeg) (a := (vp_nar .byte x))] at q2; exact q2) q3)
      · cases h4
  | lastore =>
    subst hr
    obtain ⟨x, r, rfl, h2⟩ := xx_pl_inv hh
    obtain ⟨i9, r, rfl, h2⟩ := xx_pi_inv h2
    obtain ⟨a, r, rfl, h3⟩ := xx_pr_inv h2
    obtain ⟨t, c9, hg, h4⟩ := xx_ar_inv h3
    split at h4
    · rename_i ht
      subst ht
      obtain ⟨l9, rfl, h5⟩ := xx_lng_inv h4
      obtain ⟨y, hy, h6⟩ := xx_bind_inv h5
      cases h6
      obtain ⟨v1, v2, rfl⟩ := xx_put_inv hy
      have k9 := k1 (e1 := .inl (2, .inr (.inl (l9.set i9.toNatClampNeg x)))) hg List.length_set rfl
      exact va_last hx hb hK hP hD hS a 2 (xx_w_at hl hg) rfl v1 hd (fun H1 locs1 q1 q2 q3 => k9 H1 locs1 (by rw [xx_updL v2, ← List.length_set (i := i9.toNatClampNeg) (a := x)] at q1; exact q1) (by rw [xx_updL v2, ← List.length_set (i := i9.toNatClampNeg) (a := x)] at q2; exact q2) q3)
    · cases h4
  | getstatic k =>
    obtain ⟨rfl, C, n, d, hz, hln⟩ := hr
    cases hh
    exact va_gets hx hb (hZ.1 _ hz) hS hown (hts _ hln) (fun _ z => z) hd (k0 rfl)
  | multianewarray k d =>
    obtain ⟨rfl, rfl, w1, w2, w3⟩ := hr
    exact xx_mna_sound hx hb hown (hts _ w1) (hts _ w2) (hNw _ w3) hd hK hP hD hS hA hl ho hs hh hRc hRs kk
  | _ => exact absurd hh (by simp [xx_hp])
end XH
