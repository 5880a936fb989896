/-! ===== xx_: rows looked through by a program ===== -/
def xx_dec (cc : ByteArray) (pc : Nat) (i : Instr) (len : Nat) : Bool := match decode cc pc with
  | .ok (j, n) => decide (j = i) && decide (n = len)
  | _ => false
theorem xx_dec_ok {cc : ByteArray} {pc len : Nat} {i : Instr} (h : xx_dec cc pc i len = true) : decode cc pc = .ok (i, len) := by
  unfold xx_dec at h
  split at h
  · rename_i j n hd
    obtain ⟨h1, h2⟩ := Bool.and_eq_true_iff.mp h
    rw [hd, of_decide_eq_true h1, of_decide_eq_true h2]
  · cases h
/-- a word found at its place: the list, the place in it -/
def xx_in (W : List (List Cond)) (ps : List (Nat × Nat)) (k : Nat) (w : Cond) : Bool := match ((W.getD (ps.getD k (0, 0)).1 [])[(ps.getD k (0, 0)).2]?) with
  | some u => decide (u = w)
  | none => false
theorem xx_in_ok {W : List (List Cond)} {ps : List (Nat × Nat)} {k : Nat} {w : Cond} (h : xx_in W ps k w = true) : w ∈ W.flatten := by
  unfold xx_in at h
  split at h
  · rename_i u hu
    have e := of_decide_eq_true h
    subst e
    have hm := List.mem_of_getElem? hu
    rw [List.getD_eq_getElem?_getD] at hm
    cases hg : W[(ps.getD k (0, 0)).1]? with
    | none => rw [hg] at hm; cases hm
    | some l =>
      rw [hg] at hm
      exact List.mem_flatten.mpr ⟨l, List.mem_of_getElem? hg, hm⟩
  · cases h
def xx_rowLB (own : String) (W : List (List Cond)) (ps : List (Nat × Nat)) (i : Instr) (len q pc : Nat) : Bool := match i with
  | .iconst n => decide (len = 1) && decide (Int32.ofInt n = xx_k n)
  | .bipush n => decide (len = 2) && decide ((Int8.ofInt n).toInt32 = xx_k n)
  | .sipush n => decide (len = 3) && decide ((Int16.ofInt n).toInt32 = xx_k n)
  | .ldc k => decide (len = 2) && xx_in W ps 0 (Cond.constant own k (nI q))
  | .ldc2_w k => decide (len = 3) && xx_in W ps 0 (Cond.constantLong own k (lN q))
  | .iload _ => decide (len = 2)
  | .lload _ => decide (len = 2)
  | .aload _ => decide (len = 2)
  | .istore _ => decide (len = 2)
  | .lstore _ => decide (len = 2)
  | .astore _ => decide (len = 2)
  | .iinc _ _ => decide (len = 3)
  | .goto o => decide (len = 3) && decide ((pc : Int) + o = (q : Int))
  | .ifCond _ o => decide (len = 3) && decide ((pc : Int) + o = (q : Int))
  | .if_icmp _ o => decide (len = 3) && decide ((pc : Int) + o = (q : Int))
  | .tableswitch d _ _ os => decide (0 ≤ (pc : Int) + d) && (os.toList.all fun o => decide (0 ≤ (pc : Int) + o))
  | .lookupswitch d ps => (ps.toList.zip (ps.toList.drop 1)).all (fun (a, next) => a.1 < next.1) && (decide (0 ≤ (pc : Int) + d) && (ps.toList.all fun o => decide (0 ≤ (pc : Int) + o.2)))
  | _ => decide (len = 1)
theorem xx_rowLB_ok {cc : ByteArray} {own : String} {W : List (List Cond)} {ps : List (Nat × Nat)} {i : Instr} {len q pc : Nat} (hd : decode cc pc = .ok (i, len)) (h : xx_rowLB own W ps i len q pc = true) : xx_rowL cc own W.flatten i len q pc := by
  refine ⟨hd, ?_⟩
  cases i <;> first | exact of_decide_eq_true h | (obtain ⟨h1, h2⟩ := Bool.and_eq_true_iff.mp h; first | exact ⟨of_decide_eq_true h1, xx_in_ok h2⟩ | exact ⟨of_decide_eq_true h1, of_decide_eq_true h2⟩ | exact ⟨of_decide_eq_true h1, h2⟩ | (obtain ⟨h3, h4⟩ := Bool.and_eq_true_iff.mp h2; exact ⟨h1, of_decide_eq_true h3, h4⟩))
def xx_lnkB (own : String) (k : Nat) (f : String × String × String × Bool) (nest : Bool) (W : List (List Cond)) (ps : List (Nat × Nat)) (Nw : List Cond) : Bool := match nest with
  | true => Nw.any fun w => match w with
    | .fieldLinkNest o j r n d _ => decide (o = own) && (decide (j = k) && (decide (r = f.1) && (decide (n = f.2.1) && decide (d = f.2.2.1))))
    | _ => false
  | false => xx_in W ps 0 (Cond.fieldLink own k f.1 f.2.1 f.2.2.1)
theorem xx_lnkB_ok {own : String} {k : Nat} {f : String × String × String × Bool} {nest : Bool} {W : List (List Cond)} {ps : List (Nat × Nat)} {Nw : List Cond} (h : xx_lnkB own k f nest W ps Nw = true) : xx_lnk own k f nest W.flatten Nw := by
  cases nest with
  | false =>
    exact xx_in_ok (w := Cond.fieldLink own k f.1 f.2.1 f.2.2.1) h
  | true =>
    obtain ⟨w, hw, h2⟩ := List.any_eq_true.mp h
    split at h2
    · rename_i o j r n d host
      simp only [Bool.and_eq_true, decide_eq_true_eq] at h2
      obtain ⟨rfl, rfl, rfl, rfl, rfl⟩ := h2
      exact ⟨host, hw⟩
    · cases h2
def xx_rowHB (cl : List vw_C) (Z : xx_Z) (own : String) (ini : Bool) (W : List (List Cond)) (ps : List (Nat × Nat)) (Nw : List Cond) (i : Instr) (len q : Nat) (nest : Bool) : Bool := match i with
  | .nop => true
  | .getfield k => decide (len = 3) && ((decide (q < 4032) || !nest) && (match xx_cg cl (q / 64) with
    | some (_, T, N) => decide (q % 64 < N) && xx_lnkB own k (T (q % 64)) nest W ps Nw
    | none => false))
  | .putfield k => decide (len = 3) && (match cl[q / 64]? with
    | some (_, T, N) => decide (q % 64 < N) && (xx_lnkB own k (T (q % 64)) nest W ps Nw && (decide ((T (q % 64)).2.2.2 = false) || (decide (nest = false) && (decide (ini = true) && (decide ((T (q % 64)).2.2.2 = true) && decide ((T (q % 64)).1 = own))))))
    | none => false)
  | .new k => decide (len = 3) && (match cl[q]? with
    | some (C, _, N) => xx_in W ps 0 (Cond.classLink own k C) && (xx_in W ps 1 (Cond.instantiable C N) && xx_in W ps 2 (Cond.initialized C))
    | none => false)
  | .newarray t => decide (len = 2) && xx_in W ps 0 (Cond.arrayClass (newarray.typeOf t))
  | .multianewarray k d => decide (len = 4) && (decide (d = 2) && (xx_in W ps 0 (Cond.classLink own k "[[J") && (xx_in W ps 1 (Cond.arrayClass .long) && Nw.any fun w => decide (w = Cond.arrayOver (.array .long)))))
  | .getstatic k => decide (len = 3) && Z.any fun z => decide (z.2.2.2 = nI q) && xx_in W ps 0 (Cond.fieldLink own k z.1 z.2.1 z.2.2.1)
  | _ => decide (len = 1)
theorem xx_rowHB_ok {cl : List vw_C} {Z : xx_Z} {cc : ByteArray} {own : String} {ini : Bool} {W : List (List Cond)} {ps : List (Nat × Nat)} {Nw : List Cond} {i : Instr} {len q : Nat} {nest : Bool} {pc : Nat} (hd : xx_dcd i (xx_rowK cc own W.flatten len q pc) (decode cc pc = .ok (i, len))) (h : xx_rowHB cl Z own ini W ps Nw i len q nest = true) : xx_rowH cl Z cc own ini W.flatten Nw i len q nest pc := by
  refine ⟨hd, ?_⟩
  cases i with
  | nop => exact trivial
  | getfield k =>
    obtain ⟨h1, h0⟩ := Bool.and_eq_true_iff.mp h
    obtain ⟨h9, h2⟩ := Bool.and_eq_true_iff.mp h0
    split at h2
    · rename_i C T N hc
      obtain ⟨h3, h4⟩ := Bool.and_eq_true_iff.mp h2
      exact ⟨of_decide_eq_true h1, fun z => by
        simp only [Bool.or_eq_true, decide_eq_true_eq, Bool.not_eq_true'] at h9
        rcases h9 with h9 | h9
        · omega
        · exact h9, C, T, N, hc, of_decide_eq_true h3, xx_lnkB_ok h4⟩
    · cases h2
  | putfield k =>
    obtain ⟨h1, h2⟩ := Bool.and_eq_true_iff.mp h
    split at h2
    · rename_i C T N hc
      obtain ⟨h3, h4⟩ := Bool.and_eq_true_iff.mp h2
      obtain ⟨h5, h6⟩ := Bool.and_eq_true_iff.mp h4
      simp only [Bool.or_eq_true, Bool.and_eq_true, decide_eq_true_eq] at h6
      exact ⟨of_decide_eq_true h1, C, T, N, hc, of_decide_eq_true h3, xx_lnkB_ok h5, h6⟩
    · cases h2
  | new k =>
    obtain ⟨h1, h2⟩ := Bool.and_eq_true_iff.mp h
    split at h2
    · rename_i C T N hc
      obtain ⟨h3, h4⟩ := Bool.and_eq_true_iff.mp h2
      obtain ⟨h5, h6⟩ := Bool.and_eq_true_iff.mp h4
      exact ⟨of_decide_eq_true h1, C, T, N, hc, xx_in_ok h3, xx_in_ok h5, xx_in_ok h6⟩
    · cases h2
  | newarray t =>
    obtain ⟨h1, h2⟩ := Bool.and_eq_true_iff.mp h
    exact ⟨of_decide_eq_true h1, xx_in_ok h2⟩
  | multianewarray k d =>
    obtain ⟨h1, h2⟩ := Bool.and_eq_true_iff.mp h
    obtain ⟨h3, h4⟩ := Bool.and_eq_true_iff.mp h2
    obtain ⟨h5, h6⟩ := Bool.and_eq_true_iff.mp h4
    obtain ⟨h7, h8⟩ := Bool.and_eq_true_iff.mp h6
    obtain ⟨w, hw, h9⟩ := List.any_eq_true.mp h8
    exact ⟨of_decide_eq_true h1, of_decide_eq_true h3, xx_in_ok h5, xx_in_ok h7, by rw [← of_decide_eq_true h9]; exact hw⟩
  | getstatic k =>
    obtain ⟨h1, h2⟩ := Bool.and_eq_true_iff.mp h
    obtain ⟨z, hz, h3⟩ := List.any_eq_true.mp h2
    obtain ⟨h4, h5⟩ := Bool.and_eq_true_iff.mp h3
    exact ⟨of_decide_eq_true h1, z.1, z.2.1, z.2.2.1, by rw [← of_decide_eq_true h4]; exact hz, xx_in_ok h5⟩
  | _ => exact of_decide_eq_true h
def xx_mthB (N : xx_N) (P : xx_P) (W : List (List Cond)) (ps : List (Nat × Nat)) (q : Nat) : Bool := (xx_in W ps 0 (Cond.initialized (N q).1.cls) && (decide (plainFor (N q).1 = true) && (decide ((N q).1.cls ≠ "java/lang/invoke/MethodHandle") && (decide ((N q).1.cls ≠ "java/lang/invoke/VarHandle") &&
  (decide ((parseMethodDescriptor (N q).1.desc).map (fun d => d.parameters.length + (if (P.1 q).2.2.2.2 = 0 then 0 else 1)) = some (P.1 q).2.2.1) && decide ((P.1 q).2.1 ≤ 45))))))
theorem xx_mthB_ok {N : xx_N} {P : xx_P} {W : List (List Cond)} {ps : List (Nat × Nat)} {q : Nat} (hc : Cond.code (N q).1 (N q).2 (P.1 q).2.1 (P.1 q).2.2.2.1 ∈ W.flatten) (h : xx_mthB N P W ps q = true) : xx_mth N P W.flatten q := by
  unfold xx_mthB at h
  simp only [Bool.and_eq_true, decide_eq_true_eq] at h
  exact ⟨hc, xx_in_ok h.1, h.2⟩
def xx_mlkB (own : String) (k : Nat) (y : MethodName) (nest : Bool) (W : List (List Cond)) (ps : List (Nat × Nat)) (Nw : List Cond) : Bool := match nest with
  | true => Nw.any fun w => match w with
    | .methodLinkNest o j z _ => decide (o = own) && (decide (j = k) && decide (z = y))
    | _ => false
  | false => xx_in W ps 0 (Cond.methodLink own k y)
theorem xx_mlkB_ok {own : String} {k : Nat} {y : MethodName} {nest : Bool} {W : List (List Cond)} {ps : List (Nat × Nat)} {Nw : List Cond} (h : xx_mlkB own k y nest W ps Nw = true) : xx_mlk own k y nest W.flatten Nw := by
  cases nest with
  | false =>
    exact xx_in_ok (w := Cond.methodLink own k y) h
  | true =>
    obtain ⟨w, hw, h2⟩ := List.any_eq_true.mp h
    split at h2
    · rename_i o j z host
      simp only [Bool.and_eq_true, decide_eq_true_eq] at h2
      obtain ⟨rfl, rfl, rfl⟩ := h2
      exact ⟨host, hw⟩
    · cases h2
/-- calls; the callee's own words are looked through once for each method -/
def xx_rowCB (N : xx_N) (P : xx_P) (cl : List vw_C) (own : String) (W : List (List Cond)) (ps : List (Nat × Nat)) (Nw : List Cond) (i : Instr) (len q : Nat) (nest : Bool) : Bool := decide (len = 3) && (match i with
  | .invokespecial k => if q = 0 then xx_in W ps 0 (Cond.methodLink own k objectInit) && (xx_in W ps 1 (Cond.instanceMethod objectInit) && xx_in W ps 2 (Cond.code objectInit ⟨#[0xb1]⟩ 1 none)) else decide (10 ≤ q) && (xx_in W ps 1 (Cond.instanceMethod (N q).1) && (if (N q).1.name = "<init>" then xx_mlkB own k (N q).1 nest W ps Nw && decide ((P.1 q).2.2.2.1 = none) else xx_in W ps 0 (Cond.methodLink own k (N q).1) && (xx_in W ps 2 (Cond.sameMethod (N q).1.cls (N q).1.cls (N q).1.name (N q).1.desc) && xx_in W ps 3 (Cond.superclass own (N q).1.cls))))
  | .invokestatic k => if q = 1 then xx_in W ps 0 (Cond.methodLink own k arraycopyName) && (xx_in W ps 1 (Cond.native arraycopyName) && (xx_in W ps 2 (Cond.static arraycopyName) && xx_in W ps 3 (Cond.initialized "java/lang/System"))) else decide (10 ≤ q) && (xx_mlkB own k (N q).1 nest W ps Nw && xx_in W ps 1 (Cond.static (N q).1))
  | .invokevirtual k => decide (10 ≤ q) && (xx_mlkB own k (N q).1 nest W ps Nw && (xx_in W ps 1 (Cond.instanceMethod (N q).1) && (match xx_cg cl ((P.1 q).2.2.2.2 - 1) with
    | some (C, _, _) => xx_in W ps 2 (Cond.selects C (N q).1 (N q).1)
    | none => false)))
  | _ => false)
theorem xx_rowCB_ok {N : xx_N} {P : xx_P} {cl : List vw_C} {cc : ByteArray} {own : String} {W : List (List Cond)} {ps : List (Nat × Nat)} {Nw : List Cond} {i : Instr} {len q : Nat} {nest : Bool} {pc : Nat} (hd : decode cc pc = .ok (i, len)) (hm : 10 ≤ q → xx_mth N P W.flatten q) (h : xx_rowCB N P cl own W ps Nw i len q nest = true) : xx_rowC N P cl cc own W.flatten Nw i len q nest pc := by
  unfold xx_rowCB at h
  obtain ⟨h1, h2⟩ := Bool.and_eq_true_iff.mp h
  refine ⟨hd, of_decide_eq_true h1, hm, ?_⟩
  cases i with
  | invokespecial k =>
    dsimp only at h2
    split at h2
    · rename_i hq
      simp only [Bool.and_eq_true, decide_eq_true_eq] at h2
      exact ⟨fun _ => ⟨xx_in_ok h2.1, xx_in_ok h2.2.1, xx_in_ok h2.2.2⟩, fun z => absurd z (by omega)⟩
    · rename_i hq
      obtain ⟨h3, h4⟩ := Bool.and_eq_true_iff.mp h2
      obtain ⟨h5, h6⟩ := Bool.and_eq_true_iff.mp h4
      refine ⟨fun z => absurd z hq, fun _ => ⟨xx_in_ok h5, ?_⟩⟩
      split at h6
      · rename_i hnm
        obtain ⟨h7, h8⟩ := Bool.and_eq_true_iff.mp h6
        exact Or.inl ⟨xx_mlkB_ok h7, hnm, of_decide_eq_true h8⟩
      · rename_i hnm
        obtain ⟨h7, h8⟩ := Bool.and_eq_true_iff.mp h6
        obtain ⟨h9, h10⟩ := Bool.and_eq_true_iff.mp h8
        exact Or.inr ⟨xx_in_ok h7, xx_in_ok h9, xx_in_ok h10, hnm⟩
  | invokestatic k =>
    dsimp only at h2
    split at h2
    · rename_i hq
      simp only [Bool.and_eq_true, decide_eq_true_eq] at h2
      exact ⟨fun _ => ⟨xx_in_ok h2.1, xx_in_ok h2.2.1, xx_in_ok h2.2.2.1, xx_in_ok h2.2.2.2⟩, fun z => absurd z (by omega)⟩
    · rename_i hq
      obtain ⟨h3, h4⟩ := Bool.and_eq_true_iff.mp h2
      obtain ⟨h5, h6⟩ := Bool.and_eq_true_iff.mp h4
      exact ⟨fun z => absurd z hq, fun _ => ⟨xx_mlkB_ok h5, xx_in_ok h6⟩⟩
  | invokevirtual k =>
    obtain ⟨h3, h4⟩ := Bool.and_eq_true_iff.mp h2
    obtain ⟨h5, h6⟩ := Bool.and_eq_true_iff.mp h4
    obtain ⟨h7, h8⟩ := Bool.and_eq_true_iff.mp h6
    split at h8
    · rename_i C T n hc
      exact fun _ => ⟨xx_mlkB_ok h5, xx_in_ok h7, C, T, n, hc, xx_in_ok h8⟩
    · cases h8
  | _ => cases h2
/-- a constant's reference -/
def xx_rowKB (cc : ByteArray) (own : String) (W : List (List Cond)) (ps : List (Nat × Nat)) (len q pc : Nat) : Bool := match decode cc pc with
  | .ok (.getstatic k, n) => decide (n = 3) && (decide (len = 3) && (match xx_kz q with
    | some (C, f, d) => xx_in W ps 0 (Cond.fieldLink own k C f d)
    | none => false))
  | .ok (.ldc k, n) => decide (k = 69) && (decide (n = 2) && (decide (q = 3) && (decide (len = 2) && decide (own = "DiagramOdds$Tape"))))
  | _ => false
theorem xx_rowKB_ok {cc : ByteArray} {own : String} {W : List (List Cond)} {ps : List (Nat × Nat)} {len q pc : Nat} (h : xx_rowKB cc own W ps len q pc = true) : xx_rowK cc own W.flatten len q pc := by
  unfold xx_rowKB at h
  split at h
  · rename_i k n hd
    obtain ⟨h1, h2⟩ := Bool.and_eq_true_iff.mp h
    obtain ⟨h3, h4⟩ := Bool.and_eq_true_iff.mp h2
    split at h4
    · rename_i C f d hz
      exact Or.inl ⟨k, C, f, d, by rw [hd, of_decide_eq_true h1], of_decide_eq_true h3, hz, xx_in_ok h4⟩
    · cases h4
  · rename_i k n hd
    simp only [Bool.and_eq_true, decide_eq_true_eq] at h
    obtain ⟨rfl, rfl, h3, h4, h5⟩ := h
    exact Or.inr ⟨h3, h4, hd, h5⟩
  · cases h
def xx_dcB (i : Instr) (a b : Bool) : Bool := match i with
  | .nop => a
  | _ => b
def xx_rowB (N : xx_N) (P : xx_P) (cl : List vw_C) (Z : xx_Z) (W : List (List Cond)) (Nw : List Cond) (m pc : Nat) (e : xx_I) (ps : List (Nat × Nat)) : Bool := xx_dcB e.1 (xx_rowKB (N m).2 (N m).1.cls W ps e.2.1 e.2.2.1 pc) (xx_dec (N m).2 pc e.1 e.2.1) && (match xx_kd e.1 with
  | 0 => xx_rowLB (N m).1.cls W ps e.1 e.2.1 e.2.2.1 pc
  | 1 => xx_rowHB cl Z (N m).1.cls ((N m).1.name == "<init>") W ps Nw e.1 e.2.1 e.2.2.1 e.2.2.2
  | 2 => decide (e.2.1 = 1)
  | _ => xx_rowCB N P cl (N m).1.cls W ps Nw e.1 e.2.1 e.2.2.1 e.2.2.2)
theorem xx_rowB_ok {N : xx_N} {P : xx_P} {cl : List vw_C} {Z : xx_Z} {W : List (List Cond)} {Nw : List Cond} {m pc : Nat} {e : xx_I} {ps : List (Nat × Nat)} (hm : 10 ≤ e.2.2.1 → xx_kd e.1 = 3 → xx_mth N P W.flatten e.2.2.1) (h : xx_rowB N P cl Z W Nw m pc e ps = true) : xx_row N P cl Z W.flatten Nw m pc e := by
  unfold xx_rowB at h
  obtain ⟨h1, h2⟩ := Bool.and_eq_true_iff.mp h
  have hd0 : xx_dcd e.1 (xx_rowK (N m).2 (N m).1.cls W.flatten e.2.1 e.2.2.1 pc) (decode (N m).2 pc = .ok (e.1, e.2.1)) := by
    obtain ⟨i, len, q, ns⟩ := e
    cases i <;> first | exact xx_dec_ok h1 | exact xx_rowKB_ok h1
  have hd : xx_kd e.1 ≠ 1 → decode (N m).2 pc = .ok (e.1, e.2.1) := by
    obtain ⟨i, len, q, ns⟩ := e
    cases i <;> first | exact fun _ => hd0 | exact fun z => absurd rfl z
  have h3 : xx_kd e.1 = 0 ∨ xx_kd e.1 = 1 ∨ xx_kd e.1 = 2 ∨ xx_kd e.1 = 3 := by
    cases e.1 <;> first | exact Or.inl rfl | exact Or.inr (Or.inl rfl) | exact Or.inr (Or.inr (Or.inl rfl)) | exact Or.inr (Or.inr (Or.inr rfl))
  unfold xx_row
  rcases h3 with k | k | k | k
  · have hd := hd (by rw [k]; decide)
    rw [k] at h2 ⊢
    exact xx_rowLB_ok hd h2
  · rw [k] at h2 ⊢
    exact xx_rowHB_ok hd0 h2
  · have hd := hd (by rw [k]; decide)
    rw [k] at h2 ⊢
    rw [of_decide_eq_true h2] at hd
    exact hd
  · have hd := hd (by rw [k]; decide)
    rw [k] at h2 ⊢
    exact xx_rowCB_ok hd (fun z => hm z k) h2
