/-! ===== xl_: the claim out of the loop: if the loop goes well from its head, the law's whole body does ===== -/
theorem xl_z1 : xx_sz xc_x = 15025 := by decide +kernel
set_option maxRecDepth 100000 in
theorem xl_z2 : xx_sz (xc_ms 179) = 346525 := by
  unfold xx_sz xc_ms
  simp only [List.map_cons, List.map_nil, List.sum_cons, List.sum_nil, xx_es, List.length_replicate, List.length_cons, List.length_nil]
  rfl
theorem xl_z : xx_sz xl_h = 15025 + (346525 + 1) := by
  unfold xl_h
  rw [xx_sz_app, xx_sz_app, xl_z1, xl_z2]
  rfl
theorem xl_len : xl_h.length = 203 := by
  unfold xl_h
  rw [List.length_append, xl_xlen]
  rfl
theorem xl_start {p : Program} {e : Env} {s : State} {m : MethodId} {below : List Frame} {meth : Method} {c : Code} (l : Launch) {b L : Nat} {xs : Nat → Int32} (C0 : lw_At p s m meth c b L xs)
    (loop : ∀ (D : va_G) (cs : Nat → ClassId) (H : Heap) (locs : List Loc) (L0 : Array Slot) (as : List Nat), va_K D vwCl (xx_ty cs) s → xe_At s b D cs (xl_l 0) [] xl_h H locs L0 as → W p l e room_1 s m #[Value.ref b] below meth c H locs 203 (15025 + (346525 + 1)) (lw_Z below #[Value.ref b] s) (F0 m 23 L0 [])) :
    W p l e room_1 s m #[Value.ref b] below meth c s.heap [] 0 0 (lw_Z below #[Value.ref b] s) (entryFrame m ([Value.ref b] : List Value).toArray 7) := by
  obtain ⟨hx, hb, hr0, hml, hown, hts, hX, hbl, hlocks, hgv⟩ := id C0
  obtain ⟨D, cs, hK⟩ := xe_world hts
  have hhas := xx_ent_has (b := xe_B b s) (ad := []) (as := [.retAddr 0]) (n := 7) (show (1 : Nat) ≤ 7 by decide)
  rw [lg_entry_eq]
  refine xe_T (h := []) (st := []) (as := []) (K := fun pc ls st h => pc = 23 ∧ ls = xl_l 0 ∧ st = [] ∧ h = xl_h) C0 hK (show 7 ≤ 1300 by decide) xl_begin ?_ ⟨(fun k q h => by cases h), ⟨(fun i j x y h => by cases h), (fun k q h => by cases h)⟩, va_S.rf, rfl, (fun e he => by cases he), (fun v hv => by cases hv), ?_, hhas⟩ ?_
  · rintro _ _ _ _ ⟨rfl, rfl, rfl, rfl⟩
    rw [xl_len, xl_z]
    exact ⟨by decide, by decide⟩
  · intro v hv
    have h1 := xx_ent_mem hv
    cases List.mem_singleton.mp h1
    exact fun _ => rfl
  · rintro pc' ls' st' h' H' locs' cells' slots' L' as' ⟨rfl, rfl, rfl, rfl⟩ ec es hat
    have e1 : cells' = 203 := by
      rw [xl_len] at ec
      exact ec.trans (Nat.zero_add _)
    have e2 : slots' = 15025 + (346525 + 1) := by
      rw [xl_z] at es
      exact es.trans (Nat.zero_add _)
    subst e1
    subst e2
    exact loop D cs H' locs' L' as' hK hat
