/-! ===== xr_: what a throw needs ===== -/
def xr_N : List String := ["java/lang/RuntimeException", "java/lang/Exception"]
def xr_w0 (E : String) (ik ic : Nat) : List Cond := Cond.classLink RX5 ik E :: Cond.initialized E :: vx_atS RX5 ic E xr_N
def xr_ws (E : String) (ik ic il : Nat) : List Cond := xr_w0 E ik ic ++ [Cond.classLink RL il E, Cond.castable E E]
set_option maxRecDepth 100000 in
theorem xr_k0 : ∀ w ∈ xr_ws "java/lang/IllegalStateException" 175 179 13, w ∈ tables_1 := xk_of (big := tables_1) [995, 15, 12, 1017, 1026, 1030, 1033, 1035, 1018, 1019, 30, 31, 1020, 1025, 1031, 1051, 1007, 1052, 1009, 1053, 1011, 1021, 1023, 1013, 1047, 1048, 1050, 1013, 1038, 1039, 1040, 1041, 999, 1041, 1042, 1043, 1044, 1001, 1044, 1045, 1046, 1047, 1003, 1037, 996, 997, 1004, 1005, 1006, 1008, 1010, 1012, 1016, 1015, 1014, 986, 997] (by decide +kernel)
set_option maxRecDepth 100000 in
theorem xr_k1 : ∀ w ∈ xr_ws "java/lang/IllegalArgumentException" 188 192 19, w ∈ tables_1 := xk_of (big := tables_1) [1074, 16, 12, 1017, 1026, 1030, 1033, 1035, 1018, 1019, 30, 31, 1020, 1025, 1031, 1051, 1007, 1052, 1009, 1053, 1011, 1021, 1023, 1013, 1047, 1048, 1050, 1013, 1085, 1086, 1087, 1041, 999, 1041, 1042, 1043, 1044, 1001, 1044, 1045, 1046, 1047, 1003, 1084, 1075, 1076, 1077, 1029, 1078, 1079, 1080, 1081, 1016, 1015, 1082, 1069, 1076] (by decide +kernel)
set_option maxRecDepth 100000 in
theorem xr_k2 : ∀ w ∈ xr_ws "java/lang/ArithmeticException" 250 254 25, w ∈ tables_1 := xk_of (big := tables_1) [1098, 23, 12, 1017, 1026, 1030, 1033, 1035, 1018, 1019, 30, 31, 1020, 1025, 1031, 1051, 1007, 1052, 1009, 1053, 1011, 1021, 1023, 1013, 1047, 1048, 1050, 1013, 1109, 1110, 1111, 1041, 999, 1041, 1042, 1043, 1044, 1001, 1044, 1045, 1046, 1047, 1003, 1108, 1099, 1100, 1101, 1028, 1102, 1103, 1104, 1105, 1016, 1015, 1106, 1093, 1100] (by decide +kernel)
def xr_W : List Cond := xr_ws "java/lang/IllegalStateException" 175 179 13 ++ xr_ws "java/lang/IllegalArgumentException" 188 192 19 ++ xr_ws "java/lang/ArithmeticException" 250 254 25
theorem xr_k : ∀ w ∈ xr_W, w ∈ lw_tbl := fun w hw => by
  have h : w ∈ tables_1 := by
    rcases List.mem_append.mp hw with h | h
    · rcases List.mem_append.mp h with h | h
      · exact xr_k0 w h
      · exact xr_k1 w h
    · exact xr_k2 w h
  exact List.mem_append_right _ h
set_option maxRecDepth 100000 in
theorem xr_g : xr_W.all (fun w => w.onTables && w.keepsFace) = true := by decide +kernel
theorem xr_ot {w : Cond} (hw : w ∈ xr_W) : w.onTables = true ∧ w.keepsFace = true := by
  have h := List.all_eq_true.mp xr_g w hw
  simp only [Bool.and_eq_true] at h
  exact h
theorem xr_mv {w : Cond} {s U : State} (hw : w ∈ xr_W) (hW : s.WarmedH U.vm) (h : va_Nw w s) : va_Nw w U := va_tabs (xr_ot hw).1 (rfl : (s.setVm U.vm).vm = U.vm) (Cond.before_shiftedFace (State.Shifted.of_warmed hW) w (xr_ot hw).2 h)
/-- the statics of Throwable, the texts, the words -/
def xr_E (A : Nat → Prop) (U : State) (H : Heap) : Prop :=
  vx_Zq Bundle.tN "UNASSIGNED_STACK" Bundle.steD A U H ∧ vx_Zq Bundle.tN "SUPPRESSED_SENTINEL" Bundle.listD A U H ∧ ((∃ a, vk_R RX5 177 "no room for twenty bytes" a U) ∧ (∃ a, vk_R RX5 190 "not so many bytes" a U) ∧ (∃ a, vk_R RX5 252 "what is given has no weight" a U)) ∧ ∀ w ∈ xr_W, va_Nw w U
theorem xr_E.warm {A : Nat → Prop} {s U : State} {H : Heap} (hW : s.WarmedH U.vm) (h : xr_E A s H) : xr_E A U H := by
  obtain ⟨h1, h2, ⟨⟨a1, r1⟩, ⟨a2, r2⟩, ⟨a3, r3⟩⟩, h4⟩ := h
  exact ⟨vx_Zq.moved hW.alike h1, vx_Zq.moved hW.alike h2, ⟨⟨a1, vk_R.warm hW r1⟩, ⟨a2, vk_R.warm hW r2⟩, ⟨a3, vk_R.warm hW r3⟩⟩, fun w hw => xr_mv hw hW (h4 w hw)⟩
theorem xr_E.same {A : Nat → Prop} {s U : State} {H : Heap} (hv : U.vm = s.vm) (h : xr_E A s H) : xr_E A U H := by
  obtain ⟨h1, h2, ⟨⟨a1, r1⟩, ⟨a2, r2⟩, ⟨a3, r3⟩⟩, h4⟩ := h
  have hA : s.vm.Alike U.vm := by rw [hv]; exact Vm.Alike.refl _
  exact ⟨vx_Zq.moved hA h1, vx_Zq.moved hA h2, ⟨⟨a1, vk_R.same hv r1⟩, ⟨a2, vk_R.same hv r2⟩, ⟨a3, vk_R.same hv r3⟩⟩, fun w hw => va_Nw.same (xr_ot hw).1 hv.symm (h4 w hw)⟩
theorem xr_E.kept {A : Nat → Prop} {U : State} {H H1 : Heap} (hq : ∀ a : Nat, a < H.size → ¬ A a → H1[a]? = H[a]?) (h : xr_E A U H) : xr_E A U H1 := ⟨vx_Zq.kept h.1 hq, vx_Zq.kept h.2.1 hq, h.2.2⟩
theorem xr_E.narrow {A B : Nat → Prop} {U : State} {H : Heap} (hAB : ∀ q, B q → A q) (h : xr_E A U H) : xr_E B U H := ⟨vx_Zq.narrow h.1 hAB, vx_Zq.narrow h.2.1 hAB, h.2.2⟩
theorem xr_start {b : Nat} {s : State} (hts : ∀ w ∈ lw_tbl, w.before #[Value.ref b] s = true) (hgv : (Jvm.Cond.and given_1 narrow_1).before #[Value.ref b] s = true) : xr_E (fun q => s.heap.size ≤ q) s s.heap := by
  have hs := flat_of_before _ hgv
  have hA : ∀ a : Nat, a < s.heap.size → ¬ (fun q => s.heap.size ≤ q) a := fun a h1 h2 => by have h2 : s.heap.size ≤ a := h2; omega
  refine ⟨?_, ?_, ⟨?_, ?_, ?_⟩, fun w hw => va_Nw.of (xr_ot hw).1 (hts w (xr_k w hw))⟩
  · exact vx_Zqof (hts (.laysStatic "java/lang/Throwable" "UNASSIGNED_STACK" "[Ljava/lang/StackTraceElement;") (xk_s5 _ (List.mem_of_getElem? (i := 62) (by decide +kernel)))) (hts (.initialized "java/lang/Throwable") (xk_s1 _ (List.mem_of_getElem? (i := 12) (by decide +kernel)))) (hs (.isRef (.static "java/lang/Throwable" "UNASSIGNED_STACK" "[Ljava/lang/StackTraceElement;")) (by decide +kernel)) hA
  · exact vx_Zqof (hts (.laysStatic "java/lang/Throwable" "SUPPRESSED_SENTINEL" "Ljava/util/List;") (xk_s5 _ (List.mem_of_getElem? (i := 64) (by decide +kernel)))) (hts (.initialized "java/lang/Throwable") (xk_s1 _ (List.mem_of_getElem? (i := 12) (by decide +kernel)))) (hs (.isRef (.static "java/lang/Throwable" "SUPPRESSED_SENTINEL" "Ljava/util/List;")) (by decide +kernel)) hA
  · obtain ⟨a, c9, cA, kA, q1, -⟩ := Cond.exactly_spec (args := #[Value.ref b]) (first := s) (o := none) (s := s) (idx := []) (t := (.string "DiagramOdds" 177)) (cls := "java/lang/String") (hs (.exactly (.string "DiagramOdds" 177) "java/lang/String") (by decide +kernel))
    exact ⟨a, vk_R.of (hts (.stringRef "DiagramOdds" 177 "no room for twenty bytes") (xk_s5 _ (List.mem_of_getElem? (i := 76) (by decide +kernel)))) q1⟩
  · obtain ⟨a, c9, cA, kA, q1, -⟩ := Cond.exactly_spec (args := #[Value.ref b]) (first := s) (o := none) (s := s) (idx := []) (t := (.string "DiagramOdds" 190)) (cls := "java/lang/String") (hs (.exactly (.string "DiagramOdds" 190) "java/lang/String") (by decide +kernel))
    exact ⟨a, vk_R.of (hts (.stringRef "DiagramOdds" 190 "not so many bytes") (xk_s5 _ (List.mem_of_getElem? (i := 123) (by decide +kernel)))) q1⟩
  · obtain ⟨a, c9, cA, kA, q1, -⟩ := Cond.exactly_spec (args := #[Value.ref b]) (first := s) (o := none) (s := s) (idx := []) (t := (.string "DiagramOdds" 252)) (cls := "java/lang/String") (hs (.exactly (.string "DiagramOdds" 252) "java/lang/String") (by decide +kernel))
    exact ⟨a, vk_R.of (hts (.stringRef "DiagramOdds" 252 "what is given has no weight") (xk_s5 _ (List.mem_of_getElem? (i := 147) (by decide +kernel)))) q1⟩
/-! ===== xr_: the words of the helpers ===== -/
set_option maxRecDepth 100000 in
theorem xr_cw0 : Cond.codeWith yL_feed cL_feed 8 (some .int) [(0, 16, 19, 13)] ∈ lw_tbl := xk_s5 _ (List.mem_of_getElem? (i := 25) rfl)
theorem xr_ml0 : Cond.methodLink RL 86 yL_feed ∈ lw_tbl := xk_s5 _ (List.mem_of_getElem? (i := 23) (by decide +kernel))
theorem xr_st0 : Cond.static yL_feed ∈ lw_tbl := xk_s5 _ (List.mem_of_getElem? (i := 24) (by decide +kernel))
set_option maxRecDepth 100000 in
theorem xr_cw1 : Cond.codeWith yL_end cL_end 3 (some .int) [(0, 5, 8, 19)] ∈ lw_tbl := xk_s5 _ (List.mem_of_getElem? (i := 108) rfl)
theorem xr_ml1 : Cond.methodLink RL 96 yL_end ∈ lw_tbl := xk_s5 _ (List.mem_of_getElem? (i := 106) (by decide +kernel))
theorem xr_st1 : Cond.static yL_end ∈ lw_tbl := xk_s5 _ (List.mem_of_getElem? (i := 107) (by decide +kernel))
set_option maxRecDepth 100000 in
theorem xr_cw2 : Cond.codeWith yL_odds cL_odds 5 (some .int) [(0, 10, 13, 25)] ∈ lw_tbl := xk_s5 _ (List.mem_of_getElem? (i := 132) rfl)
theorem xr_ml2 : Cond.methodLink RL 145 yL_odds ∈ lw_tbl := xk_s5 _ (List.mem_of_getElem? (i := 130) (by decide +kernel))
theorem xr_st2 : Cond.static yL_odds ∈ lw_tbl := xk_s5 _ (List.mem_of_getElem? (i := 131) (by decide +kernel))
theorem xr_iL : Cond.initialized RL ∈ lw_tbl := xk_s1 _ (List.mem_of_getElem? (i := 0) (by decide +kernel))
theorem xr_in0 : ∀ w ∈ xr_w0 "java/lang/IllegalStateException" 175 179, w ∈ xr_W := fun w hw => List.mem_append_left _ (List.mem_append_left _ (List.mem_append_left _ hw))
theorem xr_ln0 : Cond.classLink RL 13 "java/lang/IllegalStateException" ∈ xr_W := List.mem_append_left _ (List.mem_append_left _ (List.mem_append_right _ List.mem_cons_self))
theorem xr_ca0 : Cond.castable "java/lang/IllegalStateException" "java/lang/IllegalStateException" ∈ xr_W := List.mem_append_left _ (List.mem_append_left _ (List.mem_append_right _ (List.mem_cons_of_mem _ List.mem_cons_self)))
theorem xr_in1 : ∀ w ∈ xr_w0 "java/lang/IllegalArgumentException" 188 192, w ∈ xr_W := fun w hw => List.mem_append_left _ (List.mem_append_right _ (List.mem_append_left _ hw))
theorem xr_ln1 : Cond.classLink RL 19 "java/lang/IllegalArgumentException" ∈ xr_W := List.mem_append_left _ (List.mem_append_right _ (List.mem_append_right _ List.mem_cons_self))
theorem xr_ca1 : Cond.castable "java/lang/IllegalArgumentException" "java/lang/IllegalArgumentException" ∈ xr_W := List.mem_append_left _ (List.mem_append_right _ (List.mem_append_right _ (List.mem_cons_of_mem _ List.mem_cons_self)))
theorem xr_in2 : ∀ w ∈ xr_w0 "java/lang/ArithmeticException" 250 254, w ∈ xr_W := fun w hw => List.mem_append_right _ (List.mem_append_left _ hw)
theorem xr_ln2 : Cond.classLink RL 25 "java/lang/ArithmeticException" ∈ xr_W := List.mem_append_right _ (List.mem_append_right _ List.mem_cons_self)
theorem xr_ca2 : Cond.castable "java/lang/ArithmeticException" "java/lang/ArithmeticException" ∈ xr_W := List.mem_append_right _ (List.mem_append_right _ (List.mem_cons_of_mem _ List.mem_cons_self))
