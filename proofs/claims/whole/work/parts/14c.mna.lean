/-! ===== xm_: new long[n][m], from the model's own words ===== -/
/-- what the word of long[][] says -/
theorem xm_ov {args : Array Value} {first s : State} {o : Option Outcome} {idx : List Nat} : (Cond.arrayOver (.array .long)).holds args first o s idx = true ↔ ∃ cC cA kA, s.vm.findClass (FieldType.array .long).toString = some cC ∧ (s.vm.classes.findIdx? fun x => match x.kind with | .array y _ => y == cC | _ => false) = some cA ∧ s.vm.classes[cA]? = some kA ∧ kA.kind = .array cC (.array .long) ∧ s.vm.findClass ("[" ++ (FieldType.array .long).toString) = some cA := by
  unfold Cond.holds
  rw [beq_iff_eq]
  unfold Cond.value
  dsimp only
  constructor
  · intro h
    obtain ⟨cC, h1, h6⟩ := Option.bind_eq_some_iff.mp h
    obtain ⟨cA, h2, h7⟩ := Option.bind_eq_some_iff.mp h6
    obtain ⟨kA, h3, h8⟩ := Option.map_eq_some_iff.mp h7
    obtain ⟨y, hy, -⟩ := Array.findIdx?_eq_some_iff_getElem.mp h2
    rw [(Array.getElem?_eq_some_iff.mp h3).2] at hy
    refine ⟨cC, cA, kA, h1, h2, h3, ?_⟩
    cases hk : kA.kind with
    | array a b =>
      rw [hk] at h8 hy
      obtain ⟨q1, q2⟩ := Bool.and_eq_true_iff.mp h8
      exact ⟨by rw [of_decide_eq_true q1, eq_of_beq hy], of_decide_eq_true q2⟩
    | _ => rw [hk] at h8; cases h8
  · rintro ⟨cC, cA, kA, h1, h2, h3, h4, h5⟩
    rw [h1]
    refine Option.bind_eq_some_iff.mpr ⟨cC, rfl, Option.bind_eq_some_iff.mpr ⟨cA, h2, Option.map_eq_some_iff.mpr ⟨kA, h3, ?_⟩⟩⟩
    rw [h4]
    exact Bool.and_eq_true_iff.mpr ⟨decide_eq_true rfl, decide_eq_true h5⟩
/-- the class of long[][] stays -/
theorem xx_AO_moved {u U : State} (hvm : u.vm.Alike U.vm) (h : va_Nw (.arrayOver (.array .long)) u) : va_Nw (.arrayOver (.array .long)) U := by
  obtain ⟨cC, cA, kA, h1, h2, h3, h4, h5⟩ := xm_ov.mp h
  obtain ⟨k, g3, g4⟩ := hvm.2.2 _ _ h3
  exact xm_ov.mpr ⟨cC, cA, k, by rw [hvm.findClass]; exact h1, by rw [hvm.findIdx?_eqK _ (fun _ => rfl)]; exact h2, g3, by rw [g4]; exact h4, by rw [hvm.findClass]; exact h5⟩
/-- the row of rows, its first i rows in place; it lies at h -/
def xm_o (c : ClassId) (N h i : Nat) : Cell := arrV c N (fun j => va_rf (if j < i then some (h + 1 + j) else none))
/-- a row of noughts -/
def xm_r (c : ClassId) (M : Nat) : Cell := arrV c M (fun _ => .long 0)
theorem xm_put (c : ClassId) (N h i : Nat) : (xm_o c N h i).setSlot i (.ref (h + 1 + i)) = xm_o c N h (i + 1) := by
  unfold xm_o
  rw [arrV_store]
  refine congrArg (arrV c N) (funext fun j => ?_)
  unfold updV
  by_cases e : j = i
  · rw [if_pos e, e, if_pos (Nat.lt_succ_self i)]
    rfl
  · rw [if_neg e]
    show va_rf (if j < i then some (h + 1 + j) else none) = _
    by_cases hlt : j < i
    · rw [if_pos hlt, if_pos (by omega)]
    · rw [if_neg hlt, if_neg (by omega)]
/-- the state with i rows made -/
def xm_s (T : State) (cA cC : ClassId) (N M : Nat) : Nat → State
  | 0 => T.pushCell (xm_o cA N T.heap.size 0)
  | i + 1 => ((xm_s T cA cC N M i).pushCell (xm_r cC M)).setCell T.heap.size (xm_o cA N T.heap.size (i + 1))
theorem xm_top (T : State) (f : JFrame) (cA cC : ClassId) (N M : Nat) (i : Nat) : xm_s (T.setTop f) cA cC N M i = (xm_s T cA cC N M i).setTop f := by
  induction i with
  | zero => rfl
  | succ i ih =>
    unfold xm_s
    rw [ih]
    rfl
theorem xm_f (T : State) (cA cC : ClassId) (N M i : Nat) : (xm_s T cA cC N M i).heap.size = T.heap.size + 1 + i ∧ (xm_s T cA cC N M i).heap[T.heap.size]? = some (xm_o cA N T.heap.size i) ∧ (xm_s T cA cC N M i).vm = T.vm ∧ (xm_s T cA cC N M i).slotsUsed = T.slotsUsed + N + i * M ∧ ∀ x, x ≠ T.heap.size → (xm_s T cA cC N M i).heap[x]? = if x < T.heap.size then T.heap[x]? else if x ≤ T.heap.size + i then some (xm_r cC M) else none := by
  induction i with
  | zero =>
    refine ⟨Array.size_push _, State.heap_pushCell_size _ _, rfl, ?_, fun x hx => ?_⟩
    · show T.slotsUsed + (xm_o cA N T.heap.size 0).slots.size = _
      unfold xm_o
      rw [arrV_size, Nat.zero_mul]
      rfl
    · show (T.heap.push _)[x]? = _
      rw [Array.getElem?_push, if_neg hx]
      by_cases h1 : x < T.heap.size
      · rw [if_pos h1]
      · rw [if_neg h1, if_neg (by omega), Array.getElem?_eq_none (by omega)]
  | succ i ih =>
    obtain ⟨a, b, v, u, w⟩ := ih
    have hlt : T.heap.size < (xm_s T cA cC N M i).heap.size := by
      rw [a]
      omega
    have hb : ((xm_s T cA cC N M i).pushCell (xm_r cC M)).heap[T.heap.size]? = some (xm_o cA N T.heap.size i) := by
      rw [State.heap_pushCell_of_lt (h := hlt)]
      exact b
    refine ⟨?_, State.heap_setCell_self hb, v, ?_, fun x hx => ?_⟩
    · show (((xm_s T cA cC N M i).heap.push _).setIfInBounds _ _).size = _
      rw [Array.size_setIfInBounds, Array.size_push, a]
      omega
    · show (xm_s T cA cC N M i).slotsUsed + (xm_r cC M).slots.size = _
      unfold xm_r
      rw [arrV_size, u, Nat.succ_mul]
      omega
    · show (((xm_s T cA cC N M i).pushCell (xm_r cC M)).setCell T.heap.size _).heap[x]? = _
      rw [State.heap_setCell_other (fun z => hx z.symm)]
      show ((xm_s T cA cC N M i).heap.push (xm_r cC M))[x]? = _
      rw [Array.getElem?_push, a, w x hx]
      by_cases h1 : x < T.heap.size
      · rw [if_pos h1, if_pos h1, if_neg (by omega)]
      · rw [if_neg h1, if_neg h1]
        by_cases h2 : x = T.heap.size + 1 + i
        · rw [if_pos h2, if_pos (by omega)]
        · rw [if_neg h2]
          by_cases h3 : x ≤ T.heap.size + i
          · rw [if_pos h3, if_pos (by omega)]
          · rw [if_neg h3, if_neg (by omega)]
section XMS
variable {p : Program} {l : Launch} {e : Env} {R : Room} {s : State} {m : MethodId} {args : Array Value} {below : List Frame} {meth : Method} {c : Code} {T : State} {locs : List Loc} {cells slots : Nat}
theorem xm_X (X : Stand p l e R s m args below meth c T locs cells slots) (cA cC : ClassId) (N M i : Nat) : Stand p l e R s m args below meth c (xm_s T cA cC N M i) locs (cells + 1 + i) (slots + N + i * M) := by
  induction i with
  | zero =>
    have h := X.pushed (xm_o cA N T.heap.size 0)
    rw [show (xm_o cA N T.heap.size 0).slots.size = N from arrV_size _ _ _] at h
    rw [Nat.zero_mul]
    exact h
  | succ i ih =>
    obtain ⟨a, b, -⟩ := xm_f T cA cC N M i
    have hlt : T.heap.size < (xm_s T cA cC N M i).heap.size := by
      rw [a]
      omega
    have h := (ih.pushed (xm_r cC M)).stored (a := T.heap.size) (cell := xm_o cA N T.heap.size i) (by rw [State.heap_pushCell_of_lt (h := hlt)]; exact b) i (.ref (T.heap.size + 1 + i))
    rw [xm_put, show (xm_r cC M).slots.size = M from arrV_size _ _ _] at h
    have e1 : slots + N + (i + 1) * M = slots + N + i * M + M := by
      rw [Nat.succ_mul]
      omega
    rw [e1]
    exact h.dropFresh (fun x hx => by cases List.mem_singleton.mp hx; exact X.heapGrown)
end XMS
section XMW
variable {E : CtlPost} {e : Env}
/-- a loop over 0, 1 ..: the state behind i turns is S i -/
theorem xm_for {f : Nat → PUnit → Sem (ForInStep PUnit)} {S : Nat → State} {Q : PUnit → Pre} {N : Nat} (hf : ∀ i, i < N → ∀ (Q' : ForInStep PUnit → Pre) (d : Bool) (acts : List Action), (∀ d' acts', Q' (.yield PUnit.unit) d' acts' (S (i + 1))) → wp (f i PUnit.unit) Q' E e d acts (S i)) (hq : ∀ d acts, Q PUnit.unit d acts (S N)) (r : Nat) : ∀ i, i + r = N → ∀ d acts, wp (forIn (List.range' i r) PUnit.unit f) Q E e d acts (S i) := by
  induction r with
  | zero =>
    intro i hi d acts
    cases hi
    exact hq d acts
  | succ r ih =>
    intro i hi d acts
    rw [List.range'_succ, List.forIn_cons, wp_bind']
    exact hf i (by omega) _ d acts (fun d' acts' => ih (i + 1) (by omega) d' acts')
/-- one row -/
theorem xm_row {U : State} {d : Bool} {acts : List Action} {Q : Addr → Pre} {cC cc : ClassId} {kC : Class} {k : Int32} (hk : U.vm.classes[cC]? = some kC) (hd : kC.kind = .array cc .long) (hk0 : ¬ k < 0) (h1 : ¬ k.toNatClampNeg > e.platform.arrayLengthLimit) (h2 : ¬ k.toNatClampNeg * componentBytes .long > e.platform.maxHeapBytes) (h3 : U.heap.size < e.platform.maxCells) (h4 : U.slotsUsed + k.toNatClampNeg ≤ e.platform.maxSlots)
    (hq : ∀ acts', Q U.heap.size d acts' (U.pushCell (xm_r cC k.toNatClampNeg))) : wp (Jvm.Op.multianewarray.make cC [k]) Q E e d acts U := by
  unfold Jvm.Op.multianewarray.make
  simp only [wp_bind', Jvm.W.ite, if_neg hk0, wp_pure', Jvm.W.theClass]
  refine ⟨kC, hk, ?_⟩
  rw [hd]
  refine Jvm.W.newArray_of hk hd h1 h2 h3 h4 rfl (fun acts' => ?_)
  have h9 := hq acts'
  unfold xm_r at h9
  rw [← arrV_new] at h9
  exact h9
/-- all of them -/
theorem xm_make {U : State} {d : Bool} {acts : List Action} {Q : Addr → Pre} {cA cC cc : ClassId} {kA kC : Class} {n k : Int32} (hkA : U.vm.classes[cA]? = some kA) (hdA : kA.kind = .array cC (.array .long)) (hkC : U.vm.classes[cC]? = some kC) (hdC : kC.kind = .array cc .long) (hn0 : ¬ n < 0) (hk0 : ¬ k < 0)
    (h1 : ¬ n.toNatClampNeg > e.platform.arrayLengthLimit) (h2 : ¬ n.toNatClampNeg * componentBytes (.array .long) > e.platform.maxHeapBytes) (h3 : ¬ k.toNatClampNeg > e.platform.arrayLengthLimit) (h4 : ¬ k.toNatClampNeg * componentBytes .long > e.platform.maxHeapBytes)
    (h5 : U.heap.size + 1 + n.toNatClampNeg ≤ e.platform.maxCells) (h6 : U.slotsUsed + n.toNatClampNeg + n.toNatClampNeg * k.toNatClampNeg ≤ e.platform.maxSlots)
    (hq : ∀ d' acts', Q U.heap.size d' acts' (xm_s U cA cC n.toNatClampNeg k.toNatClampNeg n.toNatClampNeg)) : wp (Jvm.Op.multianewarray.make cA [n, k]) Q E e d acts U := by
  unfold Jvm.Op.multianewarray.make
  simp only [wp_bind', Jvm.W.ite, if_neg hn0, wp_pure', Jvm.W.theClass]
  refine ⟨kA, hkA, ?_⟩
  rw [hdA]
  generalize hN : n.toNatClampNeg = N at *
  generalize hM : k.toNatClampNeg = M at *
  simp only [wp_bind']
  refine Jvm.W.newArray_of (init := .null) hkA hdA h1 h2 (by omega) (by omega) rfl (fun acts1 => ?_)
  have e0 : U.pushCell { cls := cA, slots := Array.replicate N .null } = xm_s U cA cC N M 0 := by
    show U.pushCell ({ cls := cA, slots := Array.replicate N .null, vm := .none } : Cell) = U.pushCell (xm_o cA N U.heap.size 0)
    rw [arrV_new]
    rfl
  rw [e0]
  have e1 : [k].find? (fun x => decide (x < 0)) = none := by
    rw [List.find?_cons, decide_eq_false hk0]
    rfl
  simp only [e1, ite_self, wp_bind']
  rw [Std.Legacy.Range.forIn_eq_forIn_range']
  have e2 : ([:N] : Std.Legacy.Range).size = N := by simp [Std.Legacy.Range.size]
  rw [e2]
  refine xm_for (S := xm_s U cA cC N M) (N := N) (fun i hi Q' d' acts' hQ => ?_) (fun d' acts' => hq d' acts') N 0 (Nat.zero_add N) _ _
  obtain ⟨a, b, v, u, -⟩ := xm_f U cA cC N M i
  have hm : i * M + M ≤ N * M := by
    have := Nat.mul_le_mul_right M (show i + 1 ≤ N from hi)
    rw [Nat.succ_mul] at this
    exact this
  rw [wp_bind']
  refine xm_row (by rw [v]; exact hkC) hdC hk0 (by rw [hM]; exact h3) (by rw [hM]; exact h4) (by rw [a]; omega) (by rw [u, hM]; omega) (fun acts2 => ?_)
  rw [hM, wp_bind', Jvm.W.writeLoc]
  have hlt : U.heap.size < (xm_s U cA cC N M i).heap.size := by
    rw [a]
    omega
  refine ⟨xm_o cA N U.heap.size i, by rw [State.heap_pushCell_of_lt (h := hlt)]; exact b, (by unfold xm_o arrV; exact fun z => (by cases z)), (by unfold xm_o; rw [arrV_size]; exact hi), ?_, ?_⟩
  · show ((xm_s U cA cC N M i).pushCell (xm_r cC M)).fitsSlot cA .none i _ = true
    simp [State.fitsSlot, State.slotType?, v, hkA, hdA]
    rfl
  · rw [a, xm_put]
    exact hQ _ _
end XMW
section XML
variable {p : Program} {l : Launch} {e : Env} {R : Room} {s : State} {m : MethodId} {args : Array Value} {below : List Frame} {meth : Method} {c : Code} {T : State} {locs : List Loc} {cells slots : Nat}
/-- the instruction -/
theorem xm_law (X : Stand p l e R s m args below meth c T locs cells slots) (hx : p.tables.exec = Jvm.exec) {own : String} {k9 : Nat} (hown : s.vm.findClass own = some m.cls) (w1 : (Cond.classLink own k9 "[[J").before args s = true) (w2 : (Cond.arrayClass .long).before args s = true) (w3 : (Cond.arrayOver (.array .long)).before args s = true)
    {g : JFrame} (hg : g.method = m) (hd : decode c.code g.pc = .ok (.multianewarray k9 2, 4)) {n k : Int32} {r : List Value} (hst : g.stack = .int k :: .int n :: r) (n1 : ¬ n < 0) (n2 : ¬ k < 0) (n3 : n.toNatClampNeg ≤ 1000) (n4 : k.toNatClampNeg ≤ 1000)
    (hc : cells + (1 + n.toNatClampNeg) ≤ R.cells) (hs : slots + (n.toNatClampNeg + n.toNatClampNeg * k.toNatClampNeg) ≤ R.slots) :
    ∃ (vm₁ : Vm) (cA cC : ClassId), s.vm.findClass ("[" ++ (FieldType.array .long).toString) = some cA ∧ s.vm.findClass (FieldType.array .long).toString = some cC ∧ Stand p l e R s m args below meth c (xm_s (T.setVm vm₁) cA cC n.toNatClampNeg k.toNatClampNeg n.toNatClampNeg) locs (cells + 1 + n.toNatClampNeg) (slots + n.toNatClampNeg + n.toNatClampNeg * k.toNatClampNeg) ∧
      ∀ t, Steps p.tables e below ((xm_s (T.setVm vm₁) cA cC n.toNatClampNeg k.toNatClampNeg n.toNatClampNeg).setTop { g with pc := g.pc + 4, stack := .ref T.heap.size :: r }) t → Steps p.tables e below (T.setTop g) t := by
  subst hg
  obtain ⟨cC, cA, kA, q1, -, q3, q4, q5⟩ := xm_ov.mp w3
  obtain ⟨cC', kC, cc, y1, y2, y3⟩ := Cond.arrayClass_spec w2
  have ec : cC' = cC := Option.some.inj (y1.symm.trans q1)
  subst ec
  obtain ⟨c0, f0, hl⟩ := Cond.classLink_spec hown w1 e.platform (by rw [X.admits.platform])
  have nn : "[" ++ (FieldType.array .long).toString = "[[J" := by decide +kernel
  have e0 : c0 = cA := Option.some.inj (f0.symm.trans (by rw [← nn]; exact q5))
  subst e0
  obtain ⟨hgv, hW, -⟩ := State.classEntry (e := e) X.warmed hl
  generalize T.vm.noted g.method.cls k9 (.cls c0) = vm₁ at hgv hW
  have hal : s.vm.Alike vm₁ := hW.alike
  obtain ⟨kA1, a1, a2⟩ := hal.2.2 _ _ q3
  obtain ⟨kC1, b1, b2⟩ := hal.2.2 _ _ y2
  obtain ⟨r1, r2⟩ := X.roomAbove hc hs
  have X1 := xm_X (X.noted hW) c0 cC' n.toNatClampNeg k.toNatClampNeg n.toNatClampNeg
  refine ⟨vm₁, c0, cC', q5, q1, X1, fun t ht => ?_⟩
  jvm_step X.here [hx, hd]
  simp only [Jvm.Op.multianewarray.sem, wp_bind', Jvm.W.resolveClassAt_links (State.method?_setTop g X.here.top) hgv]
  refine (popN_top (s := T.setVm vm₁) (f := g) (args := [.int n, .int k]) (rest := r) (show (T.setVm vm₁).topJava?.isSome from X.here.top) hst).mpr ?_
  simp only [List.mapM_cons, List.mapM_nil, wp_bind', wp_pure']
  have p1 := Launch.admits_arrayLengthLimit X.admits
  have p2 := Launch.admits_maxHeapBytes X.admits
  refine xm_make (kA := kA1) (kC := kC1) (cC := cC') (cc := cc) a1 (by rw [a2]; exact q4) b1 (by rw [b2]; exact y3) n1 n2 (by rw [p1]; omega) (by rw [p2]; show ¬ n.toNatClampNeg * 4 > _; omega) (by rw [p1]; omega) (by rw [p2]; show ¬ k.toNatClampNeg * 8 > _; omega) (by show T.heap.size + 1 + _ ≤ _; omega) (by show T.slotsUsed + _ + _ ≤ _; omega) (fun d' acts' => ?_)
  rw [xm_top]
  simp only [wp_bind', Jvm.W.mark, Jvm.W.pushRef, State.topJava?_setTop' _ X1.here.top, Option.some.injEq, exists_eq_left', State.setTop_setTop, State.heap_setTop]
  intro acts
  simp [jvm, X1.here.top]
  exact ht
end XML
