/-! ===== the whole out of its rounds ===== -/
def xInv (k : Nat) (h : xx_H) (cells slots : Nat) : Prop := ∃ S, h = sH S ∧ JI S ∧ cells ≤ h.length + 20 * k ∧ slots ≤ xx_sz h + 100 * k
theorem xInv_room {k cells slots : Nat} {h : xx_H} (hk : k ≤ 64) (hI : xInv k h cells slots) : cells ≤ 600128 ∧ slots ≤ 7301098 := by
  obtain ⟨S, rfl, hJ, h1, h2⟩ := hI
  have h3 := JI_room hJ
  rw [sz_tz] at h2
  rw [sh_len] at h1
  omega
section LF
variable {p : Program} {l : Launch} {e : Env} {s : State} {m : MethodId} {below : List Frame} {meth : Method} {c : Code} {b L : Nat} {xs : Nat → Int32} {D : va_G} {cs : Nat → ClassId}
/-- a round that ends at the loop's head: what is owed for the three cases that may throw -/
def xSpec (p : Program) (l : Launch) (e : Env) (s : State) (m : MethodId) (below : List Frame) (meth : Method) (c : Code) (b L : Nat) (D : va_G) (cs : Nat → ClassId) (pcx : Nat) : Prop := ∀ (k : Nat) (h : xx_H) (H : Heap) (locs : List Loc) (L0 : Array Slot) (as : List Nat) (cells slots : Nat), k < 64 → 6 * k + 6 ≤ L → xInv k h cells slots → xe_At s b D cs (xl_l (nI (6 * k))) [] h H locs L0 as →
      (∀ (h' : xx_H) (H' : Heap) (locs' : List Loc) (L' : Array Slot) (as' : List Nat) (cells' slots' : Nat), xInv (k + 1) h' cells' slots' → xe_At s b D cs (xl_l (nI (6 * k + 6))) [] h' H' locs' L' as' → W p l e room_1 s m #[Value.ref b] below meth c H' locs' cells' slots' (lw_Z below #[Value.ref b] s) (F0 m 23 L' [])) →
      W p l e room_1 s m #[Value.ref b] below meth c H locs cells slots (lw_Z below #[Value.ref b] s) (F0 m pcx L0 [])
theorem xl_all (C0 : lw_At p s m meth c b L xs) (hL : L ≤ 384) (hK : va_K D vwCl (xx_ty cs) s) (hY : SYM ((List.range L).map xs)) (h13 : xSpec p l e s m below meth c b L D cs 801) (h14 : xSpec p l e s m below meth c b L D cs 905) (h26 : xSpec p l e s m below meth c b L D cs 1205) {H : Heap} {locs : List Loc} {L0 : Array Slot} {as : List Nat} (hat : xe_At s b D cs (xl_l 0) [] xl_h H locs L0 as) : W p l e room_1 s m #[Value.ref b] below meth c H locs 203 (15025 + (346525 + 1)) (lw_Z below #[Value.ref b] s) (F0 m 23 L0 []) := by
  have hlen : ((List.range L).map xs).length = L := by rw [List.length_map, List.length_range]
  refine xl_loop2 C0 hL hK xInv (fun k h cells slots hk hI => xInv_room hk hI) ?_ 65 0 xl_h H locs L0 as 203 _ rfl (by decide) ⟨S00, S00_sH.symm, JI00, by rw [xl_len]; decide, by rw [xl_z]; decide⟩ hat
  intro k h H locs L0 as cells slots hk64 hk hI hat kk
  have hI0 := hI
  obtain ⟨S, rfl, hJ, hc, hs⟩ := hI
  have hroom := JI_room hJ
  have hl : ∀ j : Nat, xl_l (nI j) = [some (.retAddr 0), some (.ref 0), some (.ref 179), some (.ref 202), some (.int (iI ((j : Nat) : Int))), none, none] := fun j => by rw [iI_nI]; rfl
  have hd := lw_disp (X := (List.range L).map xs) (S := S) (k := k) (K := fun pc ls st T => (pc = 23 ∧ ls = xl_l (nI (6 * k + 6)) ∧ st = [] ∧ JI T) ∨ ((pc = 801 ∨ pc = 905 ∨ pc = 1205) ∧ ls = xl_l (nI (6 * k)) ∧ st = [] ∧ T = S)) (by rw [hlen]; exact hk) (by rw [hlen]; exact hL) hJ hY (fun S' h' => Or.inl ⟨rfl, (hl _).symm, rfl, h'⟩) (Or.inr ⟨Or.inl rfl, (hl _).symm, rfl, rfl⟩) (Or.inr ⟨Or.inr (Or.inl rfl), (hl _).symm, rfl, rfl⟩) (Or.inr ⟨Or.inr (Or.inr rfl), (hl _).symm, rfl, rfl⟩)
  rw [← hl] at hd
  refine xe_T (st := []) C0 hK (show 170 ≤ 1300 by decide) hd ?_ hat ?_
  · rintro pc' ls' st' h' ⟨T, rfl, hT⟩
    have hT2 : JI T := by
      rcases hT with q | q
      · exact q.2.2.2
      · rw [q.2.2.2]
        exact hJ
    have h3 := JI_room hT2
    rw [sz_tz] at hs
    rw [sz_tz, sz_tz, sh_len, sh_len]
    rw [sh_len] at hc
    refine ⟨?_, ?_⟩
    · show _ ≤ 600128 + _
      omega
    · show _ ≤ 7301098 + _
      omega
  · rintro pc' ls' st' h' H' locs' cells' slots' L' as' ⟨T, rfl, hT⟩ ec es hat'
    rcases hT with ⟨rfl, rfl, rfl, hT⟩ | ⟨hp, rfl, rfl, rfl⟩
    · exact kk _ H' locs' L' as' cells' slots' ⟨T, rfl, hT, by omega, by omega⟩ hat'
    · have ec' : cells' = cells := by omega
      have es' : slots' = slots := by omega
      subst ec'
      subst es'
      rcases hp with rfl | rfl | rfl
      · exact h13 k _ H' locs' L' as' cells' slots' hk64 hk hI0 hat' kk
      · exact h14 k _ H' locs' L' as' cells' slots' hk64 hk hI0 hat' kk
      · exact h26 k _ H' locs' L' as' cells' slots' hk64 hk hI0 hat' kk
end LF
