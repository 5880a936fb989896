/-! ===== xr_: what a throw needs ===== -/
def xr_N : List String := ["java/lang/RuntimeException", "java/lang/Exception"]
def xr_w0 (E : String) (ik ic : Nat) : List Cond := Cond.classLink RX5 ik E :: Cond.initialized E :: vx_atS RX5 ic E xr_N
def xr_ws (E : String) (ik ic il : Nat) : List Cond := xr_w0 E ik ic ++ [Cond.classLink RL il E, Cond.castable E E]
set_option maxRecDepth 100000 in
theorem xr_k0 : ∀ w ∈ xr_ws "java/lang/IllegalStateException" 175 179 13, w ∈ tables_1 := xk_of (big := tables_1) [1292, 18, 15, 991, 1000, 1004, 1007, 1009, 992, 993, 33, 34, 994, 999, 1005, 1143, 981, 1144, 983, 1145, 985, 995, 997, 987, 1139, 1140, 1142, 987, 1303, 1304, 1305, 1133, 973, 1133, 1134, 1135, 1136, 975, 1136, 1137, 1138, 1139, 977, 1302, 1293, 1294, 1295, 1003, 1296, 1297, 1298, 1299, 990, 989, 1300, 1283, 1294] (by decide +kernel)
set_option maxRecDepth 100000 in
theorem xr_k1 : ∀ w ∈ xr_ws "java/lang/IllegalArgumentException" 188 192 19, w ∈ tables_1 := xk_of (big := tables_1) [1320, 19, 15, 991, 1000, 1004, 1007, 1009, 992, 993, 33, 34, 994, 999, 1005, 1143, 981, 1144, 983, 1145, 985, 995, 997, 987, 1139, 1140, 1142, 987, 1130, 1131, 1132, 1133, 973, 1133, 1134, 1135, 1136, 975, 1136, 1137, 1138, 1139, 977, 1322, 970, 971, 978, 979, 980, 982, 984, 986, 990, 989, 988, 1315, 971] (by decide +kernel)
set_option maxRecDepth 100000 in
theorem xr_k2 : ∀ w ∈ xr_ws "java/lang/ArithmeticException" 250 254 25, w ∈ tables_1 := xk_of (big := tables_1) [1331, 24, 15, 991, 1000, 1004, 1007, 1009, 992, 993, 33, 34, 994, 999, 1005, 1143, 981, 1144, 983, 1145, 985, 995, 997, 987, 1139, 1140, 1142, 987, 1342, 1343, 1344, 1133, 973, 1133, 1134, 1135, 1136, 975, 1136, 1137, 1138, 1139, 977, 1341, 1332, 1333, 1334, 1002, 1335, 1336, 1337, 1338, 990, 989, 1339, 1326, 1333] (by decide +kernel)
def xr_W : List Cond := xr_ws "java/lang/IllegalStateException" 175 179 13 ++ xr_ws "java/lang/IllegalArgumentException" 188 192 19 ++ xr_ws "java/lang/ArithmeticException" 250 254 25
theorem xr_k : ∀ w ∈ xr_W, w ∈ lw_tbl := fun w hw => by
  have h : w ∈ tables_1 := by
    rcases List.mem_append.mp hw with h | h
    · rcases List.mem_append.mp h with h | h
      · exact xr_k0 w h
      · exact xr_k1 w h
    · exact xr_k2 w h
  exact List.mem_append_right _ h
set_option maxRecDepth 100000 in
theorem xr_g : xr_W.all (fun w => w.onTables && w.keepsFace) = true := by decide +kernel
theorem xr_ot {w : Cond} (hw : w ∈ xr_W) : w.onTables = true ∧ w.keepsFace = true := by
  have h := List.all_eq_true.mp xr_g w hw
  simp only [Bool.and_eq_true] at h
  exact h
theorem xr_mv {w : Cond} {s U : State} (hw : w ∈ xr_W) (hW : s.WarmedH U.vm) (h : va_Nw w s) : va_Nw w U := va_tabs (xr_ot hw).1 (rfl : (s.setVm U.vm).vm = U.vm) (Cond.before_shiftedFace (State.Shifted.of_warmed hW) w (xr_ot hw).2 h)
/-- the statics of Throwable, the texts, the words -/
def xr_E (A : Nat → Prop) (U : State) (H : Heap) : Prop :=
  vx_Zq Bundle.tN "UNASSIGNED_STACK" Bundle.steD A U H ∧ vx_Zq Bundle.tN "SUPPRESSED_SENTINEL" Bundle.listD A U H ∧ ((∃ a, vk_R RX5 177 "no room for twenty bytes" a U) ∧ (∃ a, vk_R RX5 190 "not so many bytes" a U) ∧ (∃ a, vk_R RX5 252 "what is given has no weight" a U)) ∧ ∀ w ∈ xr_W, va_Nw w U
theorem xr_E.warm {A : Nat → Prop} {s U : State} {H : Heap} (hW : s.WarmedH U.vm) (h : xr_E A s H) : xr_E A U H := by
  obtain ⟨h1, h2, ⟨⟨a1, r1⟩, ⟨a2, r2⟩, ⟨a3, r3⟩⟩, h4⟩ := h
  exact ⟨vx_Zq.moved hW.alike h1, vx_Zq.moved hW.alike h2, ⟨⟨a1, vk_R.warm hW r1⟩, ⟨a2, vk_R.warm hW r2⟩, ⟨a3, vk_R.warm hW r3⟩⟩, fun w hw => xr_mv hw hW (h4 w hw)⟩
theorem xr_E.same {A : Nat → Prop} {s U : State} {H : Heap} (hv : U.vm = s.vm) (h : xr_E A s H) : xr_E A U H := by
  obtain ⟨h1, h2, ⟨⟨a1, r1⟩, ⟨a2, r2⟩, ⟨a3, r3⟩⟩, h4⟩ := h
  have hA : s.vm.Alike U.vm := by rw [hv]; exact Vm.Alike.refl _
  exact ⟨vx_Zq.moved hA h1, vx_Zq.moved hA h2, ⟨⟨a1, vk_R.same hv r1⟩, ⟨a2, vk_R.same hv r2⟩, ⟨a3, vk_R.same hv r3⟩⟩, fun w hw => va_Nw.same (xr_ot hw).1 hv.symm (h4 w hw)⟩
theorem xr_E.kept {A : Nat → Prop} {U : State} {H H1 : Heap} (hq : ∀ a : Nat, a < H.size → ¬ A a → H1[a]? = H[a]?) (h : xr_E A U H) : xr_E A U H1 := ⟨vx_Zq.kept h.1 hq, vx_Zq.kept h.2.1 hq, h.2.2⟩
theorem xr_E.narrow {A B : Nat → Prop} {U : State} {H : Heap} (hAB : ∀ q, B q → A q) (h : xr_E A U H) : xr_E B U H := ⟨vx_Zq.narrow h.1 hAB, vx_Zq.narrow h.2.1 hAB, h.2.2⟩
theorem xr_start {b : Nat} {s : State} (hts : ∀ w ∈ lw_tbl, w.before #[Value.ref b] s = true) (hgv : (Jvm.Cond.and given_1 narrow_1).before #[Value.ref b] s = true) : xr_E (fun q => s.heap.size ≤ q) s s.heap := by
  have hs := flat_of_before _ hgv
  have hA : ∀ a : Nat, a < s.heap.size → ¬ (fun q => s.heap.size ≤ q) a := fun a h1 h2 => by have h2 : s.heap.size ≤ a := h2; omega
  refine ⟨?_, ?_, ⟨?_, ?_, ?_⟩, fun w hw => va_Nw.of (xr_ot hw).1 (hts w (xr_k w hw))⟩
  · exact vx_Zqof (hts (.laysStatic "java/lang/Throwable" "UNASSIGNED_STACK" "[Ljava/lang/StackTraceElement;") (xk_s5 _ (List.mem_of_getElem? (i := 36) (by decide +kernel)))) (hts (.initialized "java/lang/Throwable") (xk_s1 _ (List.mem_of_getElem? (i := 15) (by decide +kernel)))) (hs (.isRef (.static "java/lang/Throwable" "UNASSIGNED_STACK" "[Ljava/lang/StackTraceElement;")) (by decide +kernel)) hA
  · exact vx_Zqof (hts (.laysStatic "java/lang/Throwable" "SUPPRESSED_SENTINEL" "Ljava/util/List;") (xk_s5 _ (List.mem_of_getElem? (i := 38) (by decide +kernel)))) (hts (.initialized "java/lang/Throwable") (xk_s1 _ (List.mem_of_getElem? (i := 15) (by decide +kernel)))) (hs (.isRef (.static "java/lang/Throwable" "SUPPRESSED_SENTINEL" "Ljava/util/List;")) (by decide +kernel)) hA
  · obtain ⟨a, c9, cA, kA, q1, -⟩ := Cond.exactly_spec (args := #[Value.ref b]) (first := s) (o := none) (s := s) (idx := []) (t := (.string "DiagramOdds" 177)) (cls := "java/lang/String") (hs (.exactly (.string "DiagramOdds" 177) "java/lang/String") (by decide +kernel))
    exact ⟨a, vk_R.of (hts (.stringRef "DiagramOdds" 177 "no room for twenty bytes") (xk_s6 _ (List.mem_of_getElem? (i := 101) (by decide +kernel)))) q1⟩
  · obtain ⟨a, c9, cA, kA, q1, -⟩ := Cond.exactly_spec (args := #[Value.ref b]) (first := s) (o := none) (s := s) (idx := []) (t := (.string "DiagramOdds" 190)) (cls := "java/lang/String") (hs (.exactly (.string "DiagramOdds" 190) "java/lang/String") (by decide +kernel))
    exact ⟨a, vk_R.of (hts (.stringRef "DiagramOdds" 190 "not so many bytes") (xk_s6 _ (List.mem_of_getElem? (i := 121) (by decide +kernel)))) q1⟩
  · obtain ⟨a, c9, cA, kA, q1, -⟩ := Cond.exactly_spec (args := #[Value.ref b]) (first := s) (o := none) (s := s) (idx := []) (t := (.string "DiagramOdds" 252)) (cls := "java/lang/String") (hs (.exactly (.string "DiagramOdds" 252) "java/lang/String") (by decide +kernel))
    exact ⟨a, vk_R.of (hts (.stringRef "DiagramOdds" 252 "what is given has no weight") (xk_s6 _ (List.mem_of_getElem? (i := 140) (by decide +kernel)))) q1⟩
/-! ===== xr_: the words of the helpers ===== -/
set_option maxRecDepth 100000 in
theorem xr_cw0 : Cond.codeWith yL_feed cL_feed 8 (some .int) [(0, 16, 19, 13)] ∈ lw_tbl := xk_s6 _ (List.mem_of_getElem? (i := 82) rfl)
theorem xr_ml0 : Cond.methodLink RL 86 yL_feed ∈ lw_tbl := xk_s6 _ (List.mem_of_getElem? (i := 80) (by decide +kernel))
theorem xr_st0 : Cond.static yL_feed ∈ lw_tbl := xk_s6 _ (List.mem_of_getElem? (i := 81) (by decide +kernel))
set_option maxRecDepth 100000 in
theorem xr_cw1 : Cond.codeWith yL_end cL_end 3 (some .int) [(0, 5, 8, 19)] ∈ lw_tbl := xk_s6 _ (List.mem_of_getElem? (i := 114) rfl)
theorem xr_ml1 : Cond.methodLink RL 96 yL_end ∈ lw_tbl := xk_s6 _ (List.mem_of_getElem? (i := 112) (by decide +kernel))
theorem xr_st1 : Cond.static yL_end ∈ lw_tbl := xk_s6 _ (List.mem_of_getElem? (i := 113) (by decide +kernel))
set_option maxRecDepth 100000 in
theorem xr_cw2 : Cond.codeWith yL_odds cL_odds 5 (some .int) [(0, 10, 13, 25)] ∈ lw_tbl := xk_s6 _ (List.mem_of_getElem? (i := 125) rfl)
theorem xr_ml2 : Cond.methodLink RL 145 yL_odds ∈ lw_tbl := xk_s6 _ (List.mem_of_getElem? (i := 123) (by decide +kernel))
theorem xr_st2 : Cond.static yL_odds ∈ lw_tbl := xk_s6 _ (List.mem_of_getElem? (i := 124) (by decide +kernel))
theorem xr_iL : Cond.initialized RL ∈ lw_tbl := xk_s1 _ (List.mem_of_getElem? (i := 0) (by decide +kernel))
theorem xr_in0 : ∀ w ∈ xr_w0 "java/lang/IllegalStateException" 175 179, w ∈ xr_W := fun w hw => List.mem_append_left _ (List.mem_append_left _ (List.mem_append_left _ hw))
theorem xr_ln0 : Cond.classLink RL 13 "java/lang/IllegalStateException" ∈ xr_W := List.mem_append_left _ (List.mem_append_left _ (List.mem_append_right _ List.mem_cons_self))
theorem xr_ca0 : Cond.castable "java/lang/IllegalStateException" "java/lang/IllegalStateException" ∈ xr_W := List.mem_append_left _ (List.mem_append_left _ (List.mem_append_right _ (List.mem_cons_of_mem _ List.mem_cons_self)))
theorem xr_in1 : ∀ w ∈ xr_w0 "java/lang/IllegalArgumentException" 188 192, w ∈ xr_W := fun w hw => List.mem_append_left _ (List.mem_append_right _ (List.mem_append_left _ hw))
theorem xr_ln1 : Cond.classLink RL 19 "java/lang/IllegalArgumentException" ∈ xr_W := List.mem_append_left _ (List.mem_append_right _ (List.mem_append_right _ List.mem_cons_self))
theorem xr_ca1 : Cond.castable "java/lang/IllegalArgumentException" "java/lang/IllegalArgumentException" ∈ xr_W := List.mem_append_left _ (List.mem_append_right _ (List.mem_append_right _ (List.mem_cons_of_mem _ List.mem_cons_self)))
theorem xr_in2 : ∀ w ∈ xr_w0 "java/lang/ArithmeticException" 250 254, w ∈ xr_W := fun w hw => List.mem_append_right _ (List.mem_append_left _ hw)
theorem xr_ln2 : Cond.classLink RL 25 "java/lang/ArithmeticException" ∈ xr_W := List.mem_append_right _ (List.mem_append_right _ List.mem_cons_self)
theorem xr_ca2 : Cond.castable "java/lang/ArithmeticException" "java/lang/ArithmeticException" ∈ xr_W := List.mem_append_right _ (List.mem_append_right _ (List.mem_cons_of_mem _ List.mem_cons_self))
