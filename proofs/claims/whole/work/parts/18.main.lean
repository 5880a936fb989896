/-! ===== xx_: the machine does what xx_run says ===== -/
/-- names and codes of the methods -/
abbrev xx_N : Type := Nat → MethodName × ByteArray
/-- what the tables say of a method -/
def xx_mth (N : xx_N) (P : xx_P) (Ts : List Cond) (q : Nat) : Prop := Cond.code (N q).1 (N q).2 (P.1 q).2.1 (P.1 q).2.2.2.1 ∈ Ts ∧ Cond.initialized (N q).1.cls ∈ Ts ∧ plainFor (N q).1 = true ∧ (N q).1.cls ≠ "java/lang/invoke/MethodHandle" ∧ (N q).1.cls ≠ "java/lang/invoke/VarHandle" ∧
  (parseMethodDescriptor (N q).1.desc).map (fun d => d.parameters.length + (if (P.1 q).2.2.2.2 = 0 then 0 else 1)) = some (P.1 q).2.2.1 ∧ (P.1 q).2.1 ≤ 45
def xx_mlk (own : String) (k : Nat) (y : MethodName) (nest : Bool) (Ts Nw : List Cond) : Prop := match nest with
  | true => ∃ host, Cond.methodLinkNest own k y host ∈ Nw
  | false => Cond.methodLink own k y ∈ Ts
/-- what the tables say of a call -/
def xx_rowC (N : xx_N) (P : xx_P) (cl : List vw_C) (cc : ByteArray) (own : String) (Ts Nw : List Cond) (i : Instr) (len q : Nat) (nest : Bool) (pc : Nat) : Prop := decode cc pc = .ok (i, len) ∧ len = 3 ∧ (10 ≤ q → xx_mth N P Ts q) ∧ match i with
  | .invokespecial k => (q = 0 → Cond.methodLink own k objectInit ∈ Ts ∧ Cond.instanceMethod objectInit ∈ Ts ∧ Cond.code objectInit ⟨#[0xb1]⟩ 1 none ∈ Ts) ∧ (10 ≤ q → Cond.instanceMethod (N q).1 ∈ Ts ∧ ((xx_mlk own k (N q).1 nest Ts Nw ∧ (N q).1.name = "<init>" ∧ (P.1 q).2.2.2.1 = none) ∨ (Cond.methodLink own k (N q).1 ∈ Ts ∧ Cond.sameMethod (N q).1.cls (N q).1.cls (N q).1.name (N q).1.desc ∈ Ts ∧ Cond.superclass own (N q).1.cls ∈ Ts ∧ (N q).1.name ≠ "<init>")))
  | .invokestatic k => (q = 1 → Cond.methodLink own k arraycopyName ∈ Ts ∧ Cond.native arraycopyName ∈ Ts ∧ Cond.static arraycopyName ∈ Ts ∧ Cond.initialized "java/lang/System" ∈ Ts) ∧ (10 ≤ q → xx_mlk own k (N q).1 nest Ts Nw ∧ Cond.static (N q).1 ∈ Ts)
  | .invokevirtual k => 10 ≤ q → xx_mlk own k (N q).1 nest Ts Nw ∧ Cond.instanceMethod (N q).1 ∈ Ts ∧ ∃ C T n, xx_cg cl ((P.1 q).2.2.2.2 - 1) = some (C, T, n) ∧ Cond.selects C (N q).1 (N q).1 ∈ Ts
  | _ => False
def xx_kd (i : Instr) : Nat := match i with
  | .nop => 1
  | .getfield _ => 1
  | .putfield _ => 1
  | .new _ => 1
  | .newarray _ => 1
  | .multianewarray _ _ => 1
  | .getstatic _ => 1
  | .arraylength => 1
  | .iaload => 1
  | .baload => 1
  | .laload => 1
  | .aaload => 1
  | .iastore => 1
  | .bastore => 1
  | .lastore => 1
  | .ireturn => 2
  | .lreturn => 2
  | .areturn => 2
  | .return_ => 2
  | .invokespecial _ => 3
  | .invokestatic _ => 3
  | .invokevirtual _ => 3
  | _ => 0
/-- what the tables say of an instruction of the method m -/
def xx_row (N : xx_N) (P : xx_P) (cl : List vw_C) (Z : xx_Z) (Ts Nw : List Cond) (m pc : Nat) (e : xx_I) : Prop := match xx_kd e.1 with
  | 0 => xx_rowL (N m).2 (N m).1.cls Ts e.1 e.2.1 e.2.2.1 pc
  | 1 => xx_rowH cl Z (N m).2 (N m).1.cls ((N m).1.name == "<init>") Ts Nw e.1 e.2.1 e.2.2.1 e.2.2.2 pc
  | 2 => decode (N m).2 pc = .ok (e.1, 1)
  | _ => xx_rowC N P cl (N m).2 (N m).1.cls Ts Nw e.1 e.2.1 e.2.2.1 e.2.2.2 pc
theorem xx_loc_kd {i : Instr} {len q pc : Nat} {ls : xx_L} {st : List Value} {z : Nat × xx_L × List Value} (h : xx_loc i len q pc ls st = some z) : xx_kd i = 0 := by
  cases i <;> first | rfl | exact absurd h (by simp [xx_loc])
theorem xx_hp_kd {P : xx_P} {i : Instr} {q : Nat} {st : List Value} {h : xx_H} {z : List Value × xx_H} (hh : xx_hp P i q st h = some z) : xx_kd i = 1 := by
  cases i <;> first | rfl | exact absurd hh (by simp [xx_hp])
theorem xx_prm_kd {i : Instr} {q : Nat} {st : List Value} {h : xx_H} {z : List Value × xx_H} (hh : xx_prm i q st h = some z) : xx_kd i = 3 := by
  cases i <;> first | rfl | exact absurd hh (by simp [xx_prm])
theorem xx_cpy_fun {α : Type} {f g : List α} {sp dp n : Nat} (d : α) (h1 : sp + n ≤ f.length) (h2 : dp + n ≤ g.length) : va_cpy (fun j => f.getD j d) (fun j => g.getD j d) sp dp n = fun j => (xx_cpy f g sp dp n).getD j d := by
  funext j
  unfold va_cpy xx_cpy
  have l1 : (g.take dp).length = dp := by rw [List.length_take]; omega
  have l2 : ((f.drop sp).take n).length = n := by rw [List.length_take, List.length_drop]; omega
  split
  · rename_i hj
    simp only [List.getD_eq_getElem?_getD]
    rw [List.getElem?_append_right (by omega), List.getElem?_append_left (by omega), List.getElem?_take_of_lt (by omega), List.getElem?_drop, l1]
  · rename_i hj
    simp only [List.getD_eq_getElem?_getD]
    by_cases hd : j < dp
    · rw [List.getElem?_append_left (by omega), List.getElem?_take_of_lt hd]
    · rw [List.getElem?_append_right (by omega), List.getElem?_append_right (by omega), List.getElem?_drop, l1, l2]
      congr 2
      omega
/-- words on nests -/
def xx_isN (w : Cond) : Bool := match w with
  | .fieldLinkNest _ _ _ _ _ _ => true
  | .methodLinkNest _ _ _ _ => true
  | .arrayOver (.array .long) => true
  | _ => false
theorem xx_isN_inv {w : Cond} (hn : xx_isN w = true) : (∃ a i b n d h, w = .fieldLinkNest a i b n d h) ∨ (∃ a i x h, w = .methodLinkNest a i x h) ∨ w = .arrayOver (.array .long) := by
  unfold xx_isN at hn
  split at hn
  · exact Or.inl ⟨_, _, _, _, _, _, rfl⟩
  · exact Or.inr (Or.inl ⟨_, _, _, _, rfl⟩)
  · exact Or.inr (Or.inr rfl)
  · cases hn
theorem xx_Nw_warm {w : Cond} {s U : State} (hn : xx_isN w = true) (hW : s.WarmedH U.vm) (h : va_Nw w s) : va_Nw w U := by
  rcases xx_isN_inv hn with ⟨_, _, _, _, _, _, rfl⟩ | ⟨_, _, _, _, rfl⟩ | rfl
  · exact va_Nw.warmF hW h
  · exact va_Nw.warmM hW h
  · exact xx_AO_moved hW.alike h
theorem xx_Nw_same {w : Cond} {s U : State} (hn : xx_isN w = true) (hW : s.vm = U.vm) (h : va_Nw w s) : va_Nw w U := by
  rcases xx_isN_inv hn with ⟨_, _, _, _, _, _, rfl⟩ | ⟨_, _, _, _, rfl⟩ | rfl
  · exact va_Nw.same rfl hW h
  · exact va_Nw.same rfl hW h
  · exact xx_AO_moved (by rw [hW]; exact Vm.Alike.refl _) h
/-- locals at the entry -/
theorem xx_flat_sl (b : xx_B) (ad : List Nat) (as : List Value) : lg_sl (as.map (xx_v b ad)) = (xx_flat as).map (fun o => match o with | some v => Slot.val (xx_v b ad v) | none => Slot.second) := by
  induction as with
  | nil => rfl
  | cons v as ih =>
    have e1 : xx_flat (v :: as) = (if v.category = 2 then [some v, none] else [some v]) ++ xx_flat as := rfl
    have e2 : lg_sl ((v :: as).map (xx_v b ad)) = (if (xx_v b ad v).category = 2 then [Slot.val (xx_v b ad v), Slot.second] else [Slot.val (xx_v b ad v)]) ++ lg_sl (as.map (xx_v b ad)) := rfl
    rw [e1, e2, List.map_append, ← ih, xx_v_cat]
    congr 1
    split <;> rfl
theorem xx_ent_has {b : xx_B} {ad : List Nat} {as : List Value} {n : Nat} (h : (xx_flat as).length ≤ n) : xx_has ((lg_sl (as.map (xx_v b ad)) ++ List.replicate (n - (lg_sl (as.map (xx_v b ad))).length) Slot.unset).toArray) n b ad (xx_ent n as) := by
  have e0 := xx_flat_sl b ad as
  have e1 : (lg_sl (as.map (xx_v b ad))).length = (xx_flat as).length := by rw [e0, List.length_map]
  have h0 := lv_entry (as.map (xx_v b ad)) (n := n) (by rw [e1]; exact h)
  refine ⟨h0.1, h0.2.1, ?_, fun i v hi => ?_⟩
  · unfold xx_ent
    rw [List.length_append, List.length_replicate]
    omega
  · unfold xx_ent at hi
    have hlt : i < (xx_flat as).length := by
      rcases Nat.lt_or_ge i (xx_flat as).length with z | z
      · exact z
      · rw [List.getElem?_append_right z] at hi
        cases (List.mem_replicate.mp (List.mem_of_getElem? hi)).2
    rw [List.getElem?_append_left hlt] at hi
    rw [List.getElem?_toArray, List.getElem?_append_left (by rw [e1]; exact hlt), e0, List.getElem?_map, hi]
    rfl
/-- the state of the world when a method begins, and what it leaves -/
def xx_Pc (D : va_G) (cl : List vw_C) (cs : Nat → ClassId) (Z : xx_Z) (Nw : List Cond) (b : xx_B) (as : List Nat) (h : xx_H) (sz : Nat) (U : State) : Prop :=
  U.heap.size = sz ∧ va_P D cl (xx_w b cs as h) U.heap ∧ va_D (fun _ => True) (xx_w b cs as h) ∧ va_K D cl (xx_ty cs) U ∧ xx_ZE cl Z b (va_A (xx_w b cs as h) sz) U U.heap ∧ ∀ w ∈ Nw, va_Nw w U
def xx_Qc (D : va_G) (cl : List vw_C) (cs : Nat → ClassId) (b : xx_B) (as : List Nat) (h : xx_H) (sz : Nat) (v : Option Value) (h' : xx_H) : Array Value → State → Outcome → State → Prop := fun _ st oc t =>
  (∃ t9 : List Nat, oc = .returned (v.map (xx_v b (as ++ t9))) ∧ (as ++ t9).length = h'.length ∧ va_P D cl (xx_w b cs (as ++ t9) h') t.heap ∧ va_D (va_A (xx_w b cs as h) sz) (xx_w b cs (as ++ t9) h')) ∧ va_F (va_A (xx_w b cs as h) sz) st t
theorem xx_blind {D : va_G} {cl : List vw_C} {cs : Nat → ClassId} {Z : xx_Z} {Nw : List Cond} {b : xx_B} {as : List Nat} {h : xx_H} {sz : Nat} {av : List Value} (hn : ∀ w ∈ Nw, xx_isN w = true) : FrameBlind (va_Pc av (xx_Pc D cl cs Z Nw b as h sz)) := fun a U g mk q => by
  obtain ⟨q0, q1, q2, q3, q4, q6, q5⟩ := q
  exact ⟨q0, q1, q2, q3, va_K.moved (u := U) (U := U.calling g mk a) (Vm.Alike.refl U.vm) q4, xx_ZE.same (s := U) (U := U.calling g mk a) rfl q6, fun w hw => xx_Nw_same (s := U) (U := U.calling g mk a) (hn w hw) rfl (q5 w hw)⟩
