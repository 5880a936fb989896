/-! ===== the law's loop, what was made being told beside the heap ===== -/
section LE
variable {p : Program} {l : Launch} {e : Env} {s : State} {m : MethodId} {below : List Frame} {meth : Method} {c : Code} {b L : Nat} {xs : Nat → Int32} {D : va_G} {cs : Nat → ClassId}
theorem xl_loop2 (C0 : lw_At p s m meth c b L xs) (hL : L ≤ 384) (hK : va_K D vwCl (xx_ty cs) s) (Inv : Nat → xx_H → Nat → Nat → Prop) (hB : ∀ k h cells slots, k ≤ 64 → Inv k h cells slots → cells ≤ 600128 ∧ slots ≤ 7301098)
    (round : ∀ (k : Nat) (h : xx_H) (H : Heap) (locs : List Loc) (L0 : Array Slot) (as : List Nat) (cells slots : Nat), k < 64 → 6 * k + 6 ≤ L → Inv k h cells slots → xe_At s b D cs (xl_l (nI (6 * k))) [] h H locs L0 as →
      (∀ (h' : xx_H) (H' : Heap) (locs' : List Loc) (L' : Array Slot) (as' : List Nat) (cells' slots' : Nat), Inv (k + 1) h' cells' slots' → xe_At s b D cs (xl_l (nI (6 * k + 6))) [] h' H' locs' L' as' → W p l e room_1 s m #[Value.ref b] below meth c H' locs' cells' slots' (lw_Z below #[Value.ref b] s) (F0 m 23 L' [])) →
      W p l e room_1 s m #[Value.ref b] below meth c H locs cells slots (lw_Z below #[Value.ref b] s) (F0 m 33 L0 [])) :
    ∀ (n k : Nat) (h : xx_H) (H : Heap) (locs : List Loc) (L0 : Array Slot) (as : List Nat) (cells slots : Nat), k + n = 65 → 6 * k ≤ 384 → Inv k h cells slots → xe_At s b D cs (xl_l (nI (6 * k))) [] h H locs L0 as → W p l e room_1 s m #[Value.ref b] below meth c H locs cells slots (lw_Z below #[Value.ref b] s) (F0 m 23 L0 [])
  | 0, k, h, H, locs, L0, as, cells, slots, hkn, hk, hI, hat => by omega
  | n + 1, k, h, H, locs, L0, as, cells, slots, hkn, hk, hI, hat => by
    have hlen : ((List.range L).map xs).length = L := by rw [List.length_map, List.length_range]
    have hbb := hB k h cells slots (by omega) hI
    refine xe_T (K := fun pc ls st h' => ls = xl_l (nI (6 * k)) ∧ h' = h ∧ ((pc = 1536 ∧ st = [.int 1]) ∨ (pc = 33 ∧ st = [] ∧ 6 * k + 6 ≤ L))) C0 hK (show 7 ≤ 1300 by decide) (xl_head (by rw [hlen]; exact hL) hk (fun _ => ⟨rfl, rfl, Or.inl ⟨rfl, rfl⟩⟩) (fun hr => xv_here ⟨rfl, rfl, Or.inr ⟨rfl, rfl, by rw [hlen] at hr; exact hr⟩⟩)) ?_ hat ?_
    · rintro _ _ _ _ ⟨rfl, rfl, -⟩
      refine ⟨?_, ?_⟩
      · show _ ≤ 600128 + _
        omega
      · show _ ≤ 7301098 + _
        omega
    · rintro pc' ls' st' h' H' locs' cells' slots' L' as' ⟨rfl, rfl, ⟨rfl, rfl⟩ | ⟨rfl, rfl, hr⟩⟩ ec es hat'
      · exact xl_end C0 hat' (by omega) (by omega)
      · have ec' : cells' = cells := by omega
        have es' : slots' = slots := by omega
        subst ec'
        subst es'
        refine round k _ H' locs' L' as' cells' slots' (by omega) hr hI hat' (fun h2 H2 locs2 L2 as2 cells2 slots2 hI2 hat2 => ?_)
        refine xl_loop2 C0 hL hK Inv hB round n (k + 1) h2 H2 locs2 L2 as2 cells2 slots2 (by omega) (by omega) hI2 ?_
        have e6 : 6 * (k + 1) = 6 * k + 6 := by omega
        rw [e6]
        exact hat2
end LE
