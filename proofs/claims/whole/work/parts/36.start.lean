/-! ===== xe_: this program's rows, classes, start ===== -/
theorem xe_lookup {α : Type} : ∀ {l : List (Nat × α)} {k : Nat} {e : α}, l.lookup k = some e → (k, e) ∈ l
  | [], _, _, h => by cases h
  | (a, b) :: l, k, e, h => by
    unfold List.lookup at h
    split at h
    · rename_i hk
      cases h
      rw [eq_of_beq hk]
      exact List.mem_cons_self
    · exact List.mem_cons_of_mem _ (xe_lookup h)
theorem xe_cq : (xt_C.all fun c => xt_CQ.flatten.contains c.1) = true := by decide +kernel
theorem xe_mth {q : Nat} (h : (xt_C.any fun c => c.1 == q) = true) : xx_mth xt_N (xt_P []) xt_T q := by
  obtain ⟨c, hc, hq⟩ := List.any_eq_true.mp h
  have hq := eq_of_beq hq
  subst hq
  refine xx_mthB_ok (W := xt_W) ?_ (List.all_eq_true.mp xk_c c hc)
  have h1 := List.all_eq_true.mp xe_cq c hc
  exact List.mem_flatten.mpr ⟨xt_CQ.flatten.map xt_cw, List.mem_of_getElem? (i := 28) rfl, List.mem_map.mpr ⟨c.1, List.contains_iff_mem.mp h1, rfl⟩⟩
theorem xe_row0 : ∀ m pc e, ((xt_P []).1 m).1 pc = some e → xx_row xt_N (xt_P []) vwCl xt_Z xt_T xt_Nw m pc e := by
  intro m pc e h
  have h : (xt_R m).1.lookup pc = some e := h
  by_cases hm : 10 ≤ m ∧ m ≤ 344
  · have hk := xk_all m hm.1 hm.2
    unfold xk_one at hk
    obtain ⟨hl, hall⟩ := Bool.and_eq_true_iff.mp hk
    have hl := of_decide_eq_true hl
    obtain ⟨j, hj⟩ := List.getElem?_of_mem (xe_lookup h)
    have hjl : j < (xt_Q m).length := by
      rw [hl]
      exact (List.getElem?_eq_some_iff.mp hj).1
    have hz := List.all_eq_true.mp hall _ (List.mem_of_getElem? ((List.getElem?_zip_eq_some (z := ((pc, e), (xt_Q m)[j]))).mpr ⟨hj, List.getElem?_eq_getElem hjl⟩))
    obtain ⟨hr, hcl⟩ := Bool.and_eq_true_iff.mp hz
    refine xx_rowB_ok (W := xt_W) (fun h10 h3 => ?_) hr
    simp only [Bool.or_eq_true, decide_eq_true_eq] at hcl
    rcases hcl with z | z | z
    · exact absurd h3 z
    · exact absurd h10 (by omega)
    · exact xe_mth z
  · rw [xt_R_out m hm] at h
    cases h
theorem xe_rowP {N : xx_N} {M : Nat → xx_M} {F F' : (Nat → List FieldType) × List Int32} {cl : List vw_C} {Z : xx_Z} {Ts Nw : List Cond} {m pc : Nat} {e : xx_I} (h : xx_row N (M, F) cl Z Ts Nw m pc e) : xx_row N (M, F') cl Z Ts Nw m pc e := h
theorem xe_row (xs : List Int32) : ∀ m pc e, ((xt_P xs).1 m).1 pc = some e → xx_row xt_N (xt_P xs) vwCl xt_Z xt_T xt_Nw m pc e := fun m pc e h => xe_rowP (xe_row0 m pc e h)
theorem xe_cls (xs : List Int32) : xx_cls (xt_P xs) vwCl xt_T := by
  intro ci C T N h
  match ci, h with
  | 0, h =>
    cases h
    exact ⟨fun w hw => List.mem_flatten.mpr ⟨u_ws RX7 TX7 2, List.mem_of_getElem? (i := 19) rfl, hw⟩, rfl, (show ∀ k, k < 2 → parseFieldDescriptor (TX7 k).2.2.1 = some ((xt_F 0).getD k .int) by decide +kernel), by decide +kernel⟩
  | 1, h =>
    cases h
    exact ⟨fun w hw => List.mem_flatten.mpr ⟨u_ws RX7 TX7 2, List.mem_of_getElem? (i := 20) rfl, hw⟩, rfl, (show ∀ k, k < 2 → parseFieldDescriptor (TX7 k).2.2.1 = some ((xt_F 1).getD k .int) by decide +kernel), by decide +kernel⟩
  | 2, h =>
    cases h
    exact ⟨fun w hw => List.mem_flatten.mpr ⟨u_ws RX0 TX0 8, List.mem_of_getElem? (i := 21) rfl, hw⟩, rfl, (show ∀ k, k < 8 → parseFieldDescriptor (TX0 k).2.2.1 = some ((xt_F 2).getD k .int) by decide +kernel), by decide +kernel⟩
  | 3, h =>
    cases h
    exact ⟨fun w hw => List.mem_flatten.mpr ⟨u_ws RX1 TX1 15, List.mem_of_getElem? (i := 22) rfl, hw⟩, rfl, (show ∀ k, k < 15 → parseFieldDescriptor (TX1 k).2.2.1 = some ((xt_F 3).getD k .int) by decide +kernel), by decide +kernel⟩
  | 4, h =>
    cases h
    exact ⟨fun w hw => List.mem_flatten.mpr ⟨u_ws RX2 TX2 7, List.mem_of_getElem? (i := 23) rfl, hw⟩, rfl, (show ∀ k, k < 7 → parseFieldDescriptor (TX2 k).2.2.1 = some ((xt_F 4).getD k .int) by decide +kernel), by decide +kernel⟩
  | 5, h =>
    cases h
    exact ⟨fun w hw => List.mem_flatten.mpr ⟨u_ws RX3 TX3 8, List.mem_of_getElem? (i := 24) rfl, hw⟩, rfl, (show ∀ k, k < 8 → parseFieldDescriptor (TX3 k).2.2.1 = some ((xt_F 5).getD k .int) by decide +kernel), by decide +kernel⟩
  | 6, h =>
    cases h
    exact ⟨fun w hw => List.mem_flatten.mpr ⟨u_ws RX4 TX4 7, List.mem_of_getElem? (i := 25) rfl, hw⟩, rfl, (show ∀ k, k < 7 → parseFieldDescriptor (TX4 k).2.2.1 = some ((xt_F 6).getD k .int) by decide +kernel), by decide +kernel⟩
  | 7, h =>
    cases h
    exact ⟨fun w hw => List.mem_flatten.mpr ⟨u_ws RX5 TX5 11, List.mem_of_getElem? (i := 26) rfl, hw⟩, rfl, (show ∀ k, k < 11 → parseFieldDescriptor (TX5 k).2.2.1 = some ((xt_F 7).getD k .int) by decide +kernel), by decide +kernel⟩
  | 8, h =>
    cases h
    exact ⟨fun w hw => List.mem_flatten.mpr ⟨u_ws RX6 TX6 45, List.mem_of_getElem? (i := 27) rfl, hw⟩, rfl, (show ∀ k, k < 45 → parseFieldDescriptor (TX6 k).2.2.1 = some ((xt_F 8).getD k .int) by decide +kernel), by decide +kernel⟩
  | n + 9, h => cases h
theorem xe_world {args : Array Value} {s : State} (hts : ∀ w ∈ lw_tbl, w.before args s = true) : ∃ (D : va_G) (cs : Nat → ClassId), va_K D vwCl (xx_ty cs) s := by
  obtain ⟨c0, iS0, hKn0⟩ := u_known (C := RX7) (T := TX7) (N := 2) (n := 2) hts xk_uX7 (hts (.instantiable RX7 2) (xk_s1 _ (List.mem_of_getElem? (i := 230) (by decide +kernel))))
  obtain ⟨c1, iS1, hKn1⟩ := u_known (C := RX7) (T := TX7) (N := 2) (n := 2) hts xk_uX7 (hts (.instantiable RX7 2) (xk_s1 _ (List.mem_of_getElem? (i := 230) (by decide +kernel))))
  obtain ⟨c2, iS2, hKn2⟩ := u_known (C := RX0) (T := TX0) (N := 8) (n := 8) hts xk_uX0 (hts (.instantiable RX0 8) (xk_s1 _ (List.mem_of_getElem? (i := 33) (by decide +kernel))))
  obtain ⟨c3, iS3, hKn3⟩ := u_known (C := RX1) (T := TX1) (N := 15) (n := 15) hts xk_uX1 (hts (.instantiable RX1 15) (xk_s1 _ (List.mem_of_getElem? (i := 110) (by decide +kernel))))
  obtain ⟨c4, iS4, hKn4⟩ := u_known (C := RX2) (T := TX2) (N := 7) (n := 7) hts xk_uX2 (hts (.instantiable RX2 7) (xk_s1 _ (List.mem_of_getElem? (i := 76) (by decide +kernel))))
  obtain ⟨c5, iS5, hKn5⟩ := u_known (C := RX3) (T := TX3) (N := 8) (n := 8) hts xk_uX3 (hts (.instantiable RX3 8) (xk_s1 _ (List.mem_of_getElem? (i := 196) (by decide +kernel))))
  obtain ⟨c6, iS6, hKn6⟩ := u_known (C := RX4) (T := TX4) (N := 7) (n := 7) hts xk_uX4 (hts (.instantiable RX4 7) (xk_s1 _ (List.mem_of_getElem? (i := 163) (by decide +kernel))))
  obtain ⟨c7, iS7, hKn7⟩ := u_known (C := RX5) (T := TX5) (N := 11) (n := 11) hts xk_uX5 (hts (.instantiable RX5 11) (xk_s1 _ (List.mem_of_getElem? (i := 25) (by decide +kernel))))
  obtain ⟨c8, iS8, hKn8⟩ := u_known (C := RX6) (T := TX6) (N := 45) (n := 45) hts xk_uX6 (hts (.instantiable RX6 45) (xk_s5 _ (List.mem_of_getElem? (i := 165) (by decide +kernel))))
  obtain ⟨a0, k0, m0, ha0, hk0, hd0⟩ := Cond.arrayClass_spec (hts (.arrayClass .int) (xk_s1 _ (List.mem_of_getElem? (i := 72) (by decide +kernel))))
  obtain ⟨a1, k1, m1, ha1, hk1, hd1⟩ := Cond.arrayClass_spec (hts (.arrayClass .boolean) (xk_s1 _ (List.mem_of_getElem? (i := 73) (by decide +kernel))))
  obtain ⟨a2, k2, m2, ha2, hk2, hd2⟩ := Cond.arrayClass_spec (hts (.arrayClass .long) (xk_s1 _ (List.mem_of_getElem? (i := 74) (by decide +kernel))))
  obtain ⟨a3, k3, m3, ha3, hk3, hd3⟩ := Cond.arrayClass_spec (hts (.arrayClass .byte) (xk_s4 _ (List.mem_of_getElem? (i := 29) (by decide +kernel))))
  obtain ⟨m4, a4, k4, -, -, hk4, hd4, ha4⟩ := xm_ov.mp (hts (.arrayOver (.array .long)) (xk_s1 _ (List.mem_of_getElem? (i := 82) (by decide +kernel))))
  refine ⟨(fun k => [c0, c1, c2, c3, c4, c5, c6, c7, c8].getD k 0, fun k => [iS0, iS1, iS2, iS3, iS4, iS5, iS6, iS7, iS8].getD k (fun _ => 0)), fun t => [a0, a1, a2, a3, a4].getD t 0, ?_, ?_⟩
  · intro k q hq
    match k, hq with
    | 0, hq => cases hq; exact hKn0
    | 1, hq => cases hq; exact hKn1
    | 2, hq => cases hq; exact hKn2
    | 3, hq => cases hq; exact hKn3
    | 4, hq => cases hq; exact hKn4
    | 5, hq => cases hq; exact hKn5
    | 6, hq => cases hq; exact hKn6
    | 7, hq => cases hq; exact hKn7
    | 8, hq => cases hq; exact hKn8
    | n + 9, hq => cases hq
  · intro k q hq
    match k, hq with
    | 0, hq => cases hq; exact ⟨fun n z => ⟨fun k h => (by cases h), k0, hk0, m0, hd0⟩, ha0⟩
    | 1, hq => cases hq; exact ⟨fun n z => ⟨fun k h => (by cases h), k1, hk1, m1, hd1⟩, ha1⟩
    | 2, hq => cases hq; exact ⟨fun n z => ⟨fun k h => (by cases h), k2, hk2, m2, hd2⟩, ha2⟩
    | 3, hq => cases hq; exact ⟨fun n z => ⟨fun k h => (by cases h), k3, hk3, m3, hd3⟩, ha3⟩
    | 4, hq => cases hq; exact ⟨fun n z => ⟨fun k h => (by cases h), k4, hk4, m4, hd4⟩, ha4⟩
    | n + 5, hq => cases hq
theorem xe_Z {b : Nat} {s : State} (hts : ∀ w ∈ lw_tbl, w.before #[Value.ref b] s = true) (hgv : (Jvm.Cond.and given_1 narrow_1).before #[Value.ref b] s = true) : ∀ z ∈ xt_Z, va_Z z.1 z.2.1 z.2.2.1 (.int z.2.2.2) (fun q => s.heap.size ≤ q) s s.heap := by
  have hs := flat_of_before _ hgv
  have hA : ∀ a : Nat, a < s.heap.size → ¬ (fun q => s.heap.size ≤ q) a := fun a h1 h2 => by have h2 : s.heap.size ≤ a := h2; omega
  unfold xt_Z
  simp only [List.forall_mem_cons]
  refine ⟨?_, ?_, ?_, ?_, fun _ h => absurd h List.not_mem_nil⟩
  · exact va_Zof (hts (.laysStatic "java/lang/String" "COMPACT_STRINGS" "Z") (xk_s3 _ (List.mem_of_getElem? (i := 99) (by decide +kernel)))) (hts (.initialized "java/lang/String") (xk_s1 _ (List.mem_of_getElem? (i := 17) (by decide +kernel)))) (va_eqi (hs (.eq (.static "java/lang/String" "COMPACT_STRINGS" "Z") (.int (nI 1))) (by decide +kernel))) hA
  · exact va_Zof (hts (.laysStatic "java/lang/StringUTF16" "$assertionsDisabled" "Z") (xk_s3 _ (List.mem_of_getElem? (i := 149) (by decide +kernel)))) (hts (.initialized "java/lang/StringUTF16") (xk_s1 _ (List.mem_of_getElem? (i := 19) (by decide +kernel)))) (va_eqi (hs (.eq (.static "java/lang/StringUTF16" "$assertionsDisabled" "Z") (.int (nI 1))) (by decide +kernel))) hA
  · exact va_Zof (hts (.laysStatic "java/lang/StringUTF16" "HI_BYTE_SHIFT" "I") (xk_s3 _ (List.mem_of_getElem? (i := 151) (by decide +kernel)))) (hts (.initialized "java/lang/StringUTF16") (xk_s1 _ (List.mem_of_getElem? (i := 19) (by decide +kernel)))) (va_eqi (hs (.eq (.static "java/lang/StringUTF16" "HI_BYTE_SHIFT" "I") (.int (nI 0))) (by decide +kernel))) hA
  · exact va_Zof (hts (.laysStatic "java/lang/StringUTF16" "LO_BYTE_SHIFT" "I") (xk_s3 _ (List.mem_of_getElem? (i := 153) (by decide +kernel)))) (hts (.initialized "java/lang/StringUTF16") (xk_s1 _ (List.mem_of_getElem? (i := 19) (by decide +kernel)))) (va_eqi (hs (.eq (.static "java/lang/StringUTF16" "LO_BYTE_SHIFT" "I") (.int (nI 8))) (by decide +kernel))) hA
theorem xe_T0 {args : Array Value} {s : State} (hts : ∀ w ∈ lw_tbl, w.before args s = true) : ∀ w ∈ xt_T, w.before args s = true := fun w hw => by
  rcases xk_T w hw with h | h
  · exact hts w h
  · exact absurd h List.not_mem_nil
def xe_ad (o : Option Value) : Option Nat := match o with
  | some (.ref a) => some a
  | _ => none
/-- where the script and the constants lie at the law's entry -/
def xe_B (b : Nat) (s : State) : xx_B := fun k => match k with
  | 0 => some b
  | 3 => xe_ad ((Term.string "DiagramOdds$Tape" 69).eval #[Value.ref b] s none [] s)
  | 4 => xe_ad ((Term.field (Term.string "DiagramOdds$Tape" 69) "java/lang/String" "value" "[B").eval #[Value.ref b] s none [] s)
  | 5 => xe_ad ((Term.static "jdk/internal/util/Preconditions" "SIOOBE_FORMATTER" "Ljava/util/function/BiFunction;").eval #[Value.ref b] s none [] s)
  | _ => none
def xe_el (f : String) (w : Cond) : Bool := match w with
  | .eq (.elem (.static _ n _) (.int _)) (.int _) => decide (n = f)
  | _ => false
theorem xe_isr {args : Array Value} {s : State} {t : Term} (h : (Cond.isRef t).before args s = true) : t.eval args s none [] s = some (xx_bv (xe_ad (t.eval args s none [] s))) := by
  cases hv : t.eval args s none [] s with
  | none => simp [Cond.before, Cond.holds, Cond.value, hv] at h
  | some v =>
    cases v <;> first | rfl | (simp [Cond.before, Cond.holds, Cond.value, hv, Value.isRef] at h; done)
theorem xe_ZE {b : Nat} {s : State} (hts : ∀ w ∈ lw_tbl, w.before #[Value.ref b] s = true) (hgv : (Jvm.Cond.and given_1 narrow_1).before #[Value.ref b] s = true) : xx_ZE vwCl xt_Z (xe_B b s) (fun q => s.heap.size ≤ q) s s.heap := by
  refine ⟨xe_Z hts hgv, rfl, ?_, ?_⟩
  all_goals have hs := flat_of_before _ hgv
  all_goals have hA : ∀ a : Nat, a < s.heap.size → ¬ (fun q => s.heap.size ≤ q) a := fun a h1 h2 => by have h2 : s.heap.size ≤ a := h2; omega
  · have hm : ((List.range 12).all fun j => decide ((Cond.eq (.elem (.field (.string "DiagramOdds$Tape" 69) "java/lang/String" "value" "[B") (.int (Int32.ofNat j))) (.int (([35, 38, 124, 94, 33, 40, 41, 61, 58, 59, 46, 44] : List Int32).getD j 0))) ∈ flatC (Jvm.Cond.and given_1 narrow_1))) = true := by decide +kernel
    obtain ⟨a, c9, cA, kA, q1, q2, q3, q4, q5, q6, -⟩ := Cond.exactly_spec (args := #[Value.ref b]) (first := s) (o := none) (s := s) (idx := []) (t := (.string "DiagramOdds$Tape" 69)) (cls := "java/lang/String") (hs (.exactly (.string "DiagramOdds$Tape" 69) "java/lang/String") (by decide +kernel))
    obtain ⟨t, ht, hT⟩ := va_Tof (args := #[Value.ref b]) (s := s) (tm := .field (.string "DiagramOdds$Tape" 69) "java/lang/String" "value" "[B") (ty := .byte) (N := 12) (f := fun j => .int (([35, 38, 124, 94, 33, 40, 41, 61, 58, 59, 46, 44] : List Int32).getD j 0)) (A := fun q => s.heap.size ≤ q) (by decide) (hs (.arrayOf (.field (.string "DiagramOdds$Tape" 69) "java/lang/String" "value" "[B") .byte) (by decide +kernel)) (va_eqt (hs (.eq (.length (.field (.string "DiagramOdds$Tape" 69) "java/lang/String" "value" "[B")) (.int 12)) (by decide +kernel))) (fun j hj => va_eqt (hs _ (of_decide_eq_true (List.all_eq_true.mp hm j (List.mem_range.mpr hj))))) hA
    refine ⟨a, t, ?_, ?_, vk_R.of (hts (.stringRef "DiagramOdds$Tape" 69 "#&|^!()=:;.,") (xk_s3 _ (List.mem_of_getElem? (i := 85) (by decide +kernel)))) q1, ⟨cA, q3, q5, by rw [q6]; exact q2, hA a (Array.getElem?_eq_some_iff.mp q3).1⟩, vk_OFof q1 (va_eqt (hs (.eq (.field (.string "DiagramOdds$Tape" 69) "java/lang/String" "coder" "B") (.int 0)) (by decide +kernel))) hA, vk_OFof q1 ht hA, hT⟩
    · show xe_ad _ = _
      rw [q1]
      rfl
    · show xe_ad _ = _
      rw [ht]
      rfl
  · exact va_Zof (hts (.laysStatic "jdk/internal/util/Preconditions" "SIOOBE_FORMATTER" "Ljava/util/function/BiFunction;") (xk_s3 _ (List.mem_of_getElem? (i := 138) (by decide +kernel)))) (hts (.initialized "jdk/internal/util/Preconditions") (xk_s1 _ (List.mem_of_getElem? (i := 20) (by decide +kernel)))) (xe_isr (hs (.isRef (.static "jdk/internal/util/Preconditions" "SIOOBE_FORMATTER" "Ljava/util/function/BiFunction;")) (by decide +kernel))) hA
/-- the number of the law among the methods -/
def xe_L : Nat := 334
theorem xe_script {s : State} {b L : Nat} {xs : Nat → Int32} (h : va_X b L xs s s.heap) : va_X b ((List.range L).map xs).length (fun j => ((List.range L).map xs).getD j 0) s s.heap := by
  obtain ⟨scr, h1, h2, h3, h4, h5⟩ := h
  refine ⟨scr, h1, h2, h3, by rw [List.length_map, List.length_range]; exact h4, fun j hj => ?_⟩
  rw [List.length_map, List.length_range] at hj
  rw [h5 j hj]
  show some (Value.int (xs j)) = some (Value.int (((List.range L).map xs).getD j 0))
  rw [List.getD_eq_getElem?_getD, List.getElem?_map, List.getElem?_range hj]
  rfl
theorem xe_nw {w : Cond} {args : Array Value} {s : State} (hn : xx_isN w = true) (h : w.before args s = true) : va_Nw w s := by
  rcases xx_isN_inv hn with ⟨_, _, _, _, _, _, rfl⟩ | ⟨_, _, _, _, rfl⟩ | rfl
  · exact va_Nw.of rfl h
  · exact va_Nw.of rfl h
  · exact h
section XE
variable {p : Program} {l : Launch} {e : Env} {s : State} {m : MethodId} {below : List Frame} {meth : Method} {c : Code} {Q : State → Prop} {b L : Nat} {xs : Nat → Int32} {D : va_G} {cs : Nat → ClassId}
/-- a piece of the law's own body, from one place to another -/
theorem xe_seg (C0 : lw_At p s m meth c b L xs) (hK : va_K D vwCl (xx_ty cs) s) {f : Nat} {stop : Nat → Bool} {n d pc pc' : Nat} {ls ls' : xx_L} {st st' : List Value} {h h' : xx_H} (hd : d ≤ 1300) (hr : xx_seg (xt_P ((List.range L).map xs)) f stop n d xe_L pc ls st h = some (pc', ls', st', h'))
    {H : Heap} {locs : List Loc} {cells slots : Nat} {L0 : Array Slot} {as : List Nat} (hRc : cells + h'.length ≤ room_1.cells + h.length) (hRs : slots + xx_sz h' ≤ room_1.slots + xx_sz h) (hP : va_P D vwCl (xx_w (xe_B b s) cs as h) H) (hD : va_D (fun q => s.heap.size ≤ q) (xx_w (xe_B b s) cs as h)) (hS : va_S (fun q => s.heap.size ≤ q) s.heap H locs) (hl : as.length = h.length) (ho : xx_okh h) (hs : xx_oks h.length true st) (hls : xx_okl h.length true ls) (hL : xx_has L0 7 (xe_B b s) as ls)
    (kk : ∀ (t : List Nat) (H' : Heap) (locs' : List Loc) (cells' slots' : Nat) (L' : Array Slot), cells' + h.length = cells + h'.length → slots' + xx_sz h = slots + xx_sz h' → (as ++ t).length = h'.length → va_P D vwCl (xx_w (xe_B b s) cs (as ++ t) h') H' → va_D (fun q => s.heap.size ≤ q) (xx_w (xe_B b s) cs (as ++ t) h') → va_S (fun q => s.heap.size ≤ q) s.heap H' locs' → xx_has L' 7 (xe_B b s) (as ++ t) ls' →
      W p l e room_1 s m #[Value.ref b] below meth c H' locs' cells' slots' Q (F0 m pc' L' (st'.map (xx_v (xe_B b s) (as ++ t))))) :
    W p l e room_1 s m #[Value.ref b] below meth c H locs cells slots Q (F0 m pc L0 (st.map (xx_v (xe_B b s) as))) := by
  obtain ⟨hx, hb, hr0, hml, hown, hts, hX, hbl, hlocks, hgv⟩ := id C0
  exact xx_seg_sound (sc := true) (xe_cls _) xk_G (fun w hw => List.all_eq_true.mp xk_gn w hw) (xe_row _) hx hb hml hown (xe_T0 hts) (fun w hw => xe_nw (List.all_eq_true.mp xk_gn w hw) (hts w (xk_n w hw))) hK (fun h => absurd h (by decide +kernel)) (xe_ZE hts hgv) (fun _ => ⟨b, rfl, xe_script hX, hbl, Nat.not_le.mpr hbl⟩) (by show d ≤ 2048; omega) (by show d * 64 ≤ 84000; omega) (fun _ h => h) hr _ _ _ _ _ _ hRc hRs hP hD hS hl ho hs hls hL kk
end XE
