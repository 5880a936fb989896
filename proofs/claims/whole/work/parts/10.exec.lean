/-! ===== xx_: AN EXECUTOR. A pure machine over a list of cells; its cells are told by their places; what it computes the JVM does (part 12). ===== -/
/-- an array's contents: ints (also booleans, bytes), longs, references -/
abbrev xx_A : Type := List Int32 ⊕ (List Int64 ⊕ List (Option Nat))
/-- a cell: an array of the kind t (a place in the list of types), or an object of the class ci -/
abbrev xx_E : Type := (Nat × xx_A) ⊕ (Nat × List Value)
abbrev xx_H : Type := List xx_E
abbrev xx_L : Type := List (Option Value)
/-- an instruction as decoded, its length, a number that says where its index leads, whether by a nest's word -/
abbrev xx_I : Type := Instr × Nat × Nat × Bool
/-- a method: its instructions, maximum of locals, arguments (with the receiver), what it returns, its class's place + 1 (0: static) -/
abbrev xx_M : Type := (Nat → Option xx_I) × Nat × Nat × Option FieldType × Nat
/-- a whole program: its methods, the field types of its classes, the script -/
abbrev xx_P : Type := (Nat → xx_M) × (Nat → List FieldType) × List Int32
/-- where the script and the constants beside the heap lie: 0 the script, 3 a String, 4 its bytes, 5 a reference that nobody follows -/
abbrev xx_B : Type := Nat → Option Nat
def xx_bv (o : Option Nat) : Value := match o with
  | some a => .ref a
  | none => .null
def xx_kb (k : Nat) : Option (List Int32) := match k with
  | 4 => some [35, 38, 124, 94, 33, 40, 41, 61, 58, 59, 46, 44]
  | _ => none
def xx_kf (k q : Nat) : Option Value := if k = 3 then (match q with
  | 4032 => some (.retAddr 4)
  | 4033 => some (.int 0)
  | _ => none) else none
/-- constants that are static fields -/
def xx_kz (q : Nat) : Option (String × String × String) := match q with
  | 5 => some ("jdk/internal/util/Preconditions", "SIOOBE_FORMATTER", "Ljava/util/function/BiFunction;")
  | _ => none
def xx_k (n : Int) : Int32 := if n < 0 then Int32.ofInt n else nI n.toNat
/-- what a field of a type may hold -/
def xx_fit (ty : FieldType) (v : Value) : Bool := match ty with
  | .int => (match v with | .int _ => true | _ => false)
  | .long => (match v with | .long _ => true | _ => false)
  | .boolean => (match v with | .int x => decide (x = 0) || decide (x = 1) | _ => false)
  | .byte => (match v with | .int x => decide (x.toInt8.toInt32 = x) | _ => false)
  | .char => (match v with | .int x => decide (0 ≤ x) && decide (x ≤ 65535) | _ => false)
  | .object _ => (match v with | .ref _ => true | .null => true | _ => false)
  | .array _ => (match v with | .ref _ => true | .null => true | _ => false)
  | _ => false
def xx_pi {α : Type} (st : List Value) (k : Int32 → List Value → Option α) : Option α := match st with
  | .int x :: r => k x r
  | _ => none
def xx_pl {α : Type} (st : List Value) (k : Int64 → List Value → Option α) : Option α := match st with
  | .long x :: r => k x r
  | _ => none
def xx_pr {α : Type} (st : List Value) (k : Nat → List Value → Option α) : Option α := match st with
  | .ref x :: r => k x r
  | _ => none
def xx_pv {α : Type} (st : List Value) (k : Value → List Value → Option α) : Option α := match st with
  | x :: r => if x.category = 1 then k x r else none
  | _ => none
/-- storing into locals: a long before the place is gone -/
def xx_clr (ls : xx_L) (i : Nat) : xx_L := match i with
  | 0 => ls
  | j + 1 => match ls[j]? with
    | some (some v) => if v.category = 2 then ls.set j none else ls
    | _ => ls
def xx_set1 (ls : xx_L) (i : Nat) (v : Value) : xx_L := (xx_clr ls i).set i (some v)
def xx_set2 (ls : xx_L) (i : Nat) (v : Value) : xx_L := ((xx_clr ls i).set (i + 1) none).set i (some v)
def xx_ldi {α : Type} (ls : xx_L) (i : Nat) (k : Int32 → Option α) : Option α := match ls[i]? with
  | some (some (.int x)) => k x
  | _ => none
def xx_ldl {α : Type} (ls : xx_L) (i : Nat) (k : Int64 → Option α) : Option α := match ls[i]? with
  | some (some (.long x)) => k x
  | _ => none
/-- a reference of any kind: a cell, the script -/
def xx_lda {α : Type} (ls : xx_L) (i : Nat) (k : Value → Option α) : Option α := match ls[i]? with
  | some (some (.ref x)) => k (.ref x)
  | some (some (.retAddr x)) => k (.retAddr x)
  | _ => none
def xx_sti (i : Nat) (pc len : Nat) (ls : xx_L) (st : List Value) : Option (Nat × xx_L × List Value) := if i < ls.length then xx_pi st fun x r => some (pc + len, xx_set1 ls i (.int x), r) else none
def xx_stl (i : Nat) (pc len : Nat) (ls : xx_L) (st : List Value) : Option (Nat × xx_L × List Value) := if i + 1 < ls.length then xx_pl st fun x r => some (pc + len, xx_set2 ls i (.long x), r) else none
def xx_sta (i : Nat) (pc len : Nat) (ls : xx_L) (st : List Value) : Option (Nat × xx_L × List Value) := if i < ls.length then xx_pr st fun x r => some (pc + len, xx_set1 ls i (.ref x), r) else none
/-- an int compared with 0, two ints -/
def xx_if (c : Jvm.ClassFile.Cond) (x : Int32) : Bool := match c with
  | .eq => decide (x = 0)
  | .ne => decide (¬ x = 0)
  | .lt => decide (x < 0)
  | .ge => decide (0 ≤ x)
  | .gt => decide (0 < x)
  | .le => decide (x ≤ 0)
def xx_cmp (c : Jvm.ClassFile.Cond) (x y : Int32) : Bool := match c with
  | .eq => decide (x = y)
  | .ne => decide (¬ x = y)
  | .lt => decide (x < y)
  | .ge => decide (y ≤ x)
  | .gt => decide (y < x)
  | .le => decide (x ≤ y)
/-- instructions that touch the frame alone: where it goes on -/
def xx_loc (i : Instr) (len q pc : Nat) (ls : xx_L) (st : List Value) : Option (Nat × xx_L × List Value) := match i with
  | .iconst n => some (pc + len, ls, .int (xx_k n) :: st)
  | .bipush n => some (pc + len, ls, .int (xx_k n) :: st)
  | .sipush n => some (pc + len, ls, .int (xx_k n) :: st)
  | .ldc _ => some (pc + len, ls, .int (nI q) :: st)
  | .lconst n => some (pc + len, ls, .long (lN n.val) :: st)
  | .ldc2_w _ => some (pc + len, ls, .long (lN q) :: st)
  | .iload k => xx_ldi ls k fun x => some (pc + len, ls, .int x :: st)
  | .iload_n k => xx_ldi ls k.val fun x => some (pc + len, ls, .int x :: st)
  | .lload k => xx_ldl ls k fun x => some (pc + len, ls, .long x :: st)
  | .lload_n k => xx_ldl ls k.val fun x => some (pc + len, ls, .long x :: st)
  | .aload k => xx_lda ls k fun x => some (pc + len, ls, x :: st)
  | .aload_n k => xx_lda ls k.val fun x => some (pc + len, ls, x :: st)
  | .istore k => xx_sti k pc len ls st
  | .istore_n k => xx_sti k.val pc len ls st
  | .lstore k => xx_stl k pc len ls st
  | .lstore_n k => xx_stl k.val pc len ls st
  | .astore k => xx_sta k pc len ls st
  | .astore_n k => xx_sta k.val pc len ls st
  | .iinc k n => if k < ls.length then xx_ldi ls k fun x => some (pc + len, xx_set1 ls k (.int (x + Int32.ofInt n)), st) else none
  | .iadd => xx_pi st fun y r => xx_pi r fun x r => some (pc + len, ls, .int (x + y) :: r)
  | .isub => xx_pi st fun y r => xx_pi r fun x r => some (pc + len, ls, .int (x - y) :: r)
  | .imul => xx_pi st fun y r => xx_pi r fun x r => some (pc + len, ls, .int (x * y) :: r)
  | .iand => xx_pi st fun y r => xx_pi r fun x r => some (pc + len, ls, .int (x &&& y) :: r)
  | .ior => xx_pi st fun y r => xx_pi r fun x r => some (pc + len, ls, .int (x ||| y) :: r)
  | .ixor => xx_pi st fun y r => xx_pi r fun x r => some (pc + len, ls, .int (x ^^^ y) :: r)
  | .idiv => xx_pi st fun y r => xx_pi r fun x r => if y = 0 then none else some (pc + len, ls, .int (x / y) :: r)
  | .irem => xx_pi st fun y r => xx_pi r fun x r => if y = 0 then none else some (pc + len, ls, .int (x - x / y * y) :: r)
  | .ineg => xx_pi st fun x r => some (pc + len, ls, .int (-x) :: r)
  | .ishl => xx_pi st fun y r => xx_pi r fun x r => some (pc + len, ls, .int (x <<< (y &&& 31)) :: r)
  | .ishr => xx_pi st fun y r => xx_pi r fun x r => some (pc + len, ls, .int (x >>> (y &&& 31)) :: r)
  | .iushr => xx_pi st fun y r => xx_pi r fun x r => some (pc + len, ls, .int ((x.toUInt32 >>> (y.toUInt32 &&& Int32.toUInt32 31)).toInt32) :: r)
  | .lneg => xx_pl st fun x r => some (pc + len, ls, .long (-x) :: r)
  | .ladd => xx_pl st fun y r => xx_pl r fun x r => some (pc + len, ls, .long (x + y) :: r)
  | .lsub => xx_pl st fun y r => xx_pl r fun x r => some (pc + len, ls, .long (x - y) :: r)
  | .lmul => xx_pl st fun y r => xx_pl r fun x r => some (pc + len, ls, .long (x * y) :: r)
  | .land => xx_pl st fun y r => xx_pl r fun x r => some (pc + len, ls, .long (x &&& y) :: r)
  | .lor => xx_pl st fun y r => xx_pl r fun x r => some (pc + len, ls, .long (x ||| y) :: r)
  | .lxor => xx_pl st fun y r => xx_pl r fun x r => some (pc + len, ls, .long (x ^^^ y) :: r)
  | .ldiv => xx_pl st fun y r => xx_pl r fun x r => if y = 0 then none else some (pc + len, ls, .long (x / y) :: r)
  | .lrem => xx_pl st fun y r => xx_pl r fun x r => if y = 0 then none else some (pc + len, ls, .long (x - x / y * y) :: r)
  | .lshl => xx_pi st fun y r => xx_pl r fun x r => some (pc + len, ls, .long (x <<< (y.toInt64 &&& 63)) :: r)
  | .lshr => xx_pi st fun y r => xx_pl r fun x r => some (pc + len, ls, .long (x >>> (y.toInt64 &&& 63)) :: r)
  | .lushr => xx_pi st fun y r => xx_pl r fun x r => some (pc + len, ls, .long ((x.toUInt64 >>> (y.toInt64.toUInt64 &&& Int64.toUInt64 63)).toInt64) :: r)
  | .lcmp => xx_pl st fun y r => xx_pl r fun x r => some (pc + len, ls, .int (lg_cmp x y) :: r)
  | .i2l => xx_pi st fun x r => some (pc + len, ls, .long x.toInt64 :: r)
  | .l2i => xx_pl st fun x r => some (pc + len, ls, .int x.toInt32 :: r)
  | .i2b => xx_pi st fun x r => some (pc + len, ls, .int x.toInt8.toInt32 :: r)
  | .i2c => xx_pi st fun x r => some (pc + len, ls, .int (x.toUInt32 % 65536).toInt32 :: r)
  | .dup => xx_pv st fun v r => some (pc + len, ls, v :: v :: r)
  | .pop => xx_pv st fun _ r => some (pc + len, ls, r)
  | .dup_x1 => xx_pv st fun v r => xx_pv r fun w r => some (pc + len, ls, v :: w :: v :: r)
  | .dup2 => xx_pv st fun v r => xx_pv r fun w r => some (pc + len, ls, v :: w :: v :: w :: r)
  | .goto _ => some (q, ls, st)
  | .ifCond c _ => xx_pi st fun x r => some (if xx_if c x then q else pc + len, ls, r)
  | .if_icmp c _ => xx_pi st fun y r => xx_pi r fun x r => some (if xx_cmp c x y then q else pc + len, ls, r)
  | .tableswitch d lo hi offs => xx_pi st fun x r => if x.toInt < lo ∨ hi < x.toInt then some (((pc : Int) + d).toNat, ls, r) else match offs[(x.toInt - lo).toNat]? with
    | some o => some (((pc : Int) + o).toNat, ls, r)
    | none => none
  | .lookupswitch d ps => xx_pi st fun x r => some (((pc : Int) + Op.lookupswitch.offset ps.toList d x.toInt).toNat, ls, r)
  | _ => none
/-- a place in an array -/
def xx_at {α : Type} (l : List α) (i : Int32) : Option α := if i < 0 then none else l[i.toNatClampNeg]?
def xx_ar {α : Type} (h : xx_H) (a : Nat) (k : Nat → xx_A → Option α) : Option α := match h[a]? with
  | some (.inl (t, c)) => k t c
  | _ => none
def xx_ob {α : Type} (h : xx_H) (a : Nat) (k : Nat → List Value → Option α) : Option α := match h[a]? with
  | some (.inr (c, fs)) => k c fs
  | _ => none
/-- an index of a store is looked at first -/
def xx_put {α : Type} (l : List α) (i : Int32) (x : α) : Option (List α) := if i < 0 ∨ l.length ≤ i.toNatClampNeg then none else some (l.set i.toNatClampNeg x)
def xx_int {α : Type} (c : xx_A) (k : List Int32 → Option α) : Option α := match c with
  | .inl l => k l
  | _ => none
def xx_lng {α : Type} (c : xx_A) (k : List Int64 → Option α) : Option α := match c with
  | .inr (.inl l) => k l
  | _ => none
def xx_rfs {α : Type} (c : xx_A) (k : List (Option Nat) → Option α) : Option α := match c with
  | .inr (.inr l) => k l
  | _ => none
/-- the kinds of arrays: int, boolean, long, byte, long[] -/
def xx_tys : List FieldType := [.int, .boolean, .long, .byte, .array .long]
def xx_new (t : ArrayType) (n : Nat) : Option xx_E := match t with
  | .int => some (.inl (0, .inl (List.replicate n 0)))
  | .boolean => some (.inl (1, .inl (List.replicate n 0)))
  | .long => some (.inl (2, .inr (.inl (List.replicate n 0))))
  | .byte => some (.inl (3, .inl (List.replicate n 0)))
  | _ => none
def xx_cl (c : xx_A) : Nat := match c with
  | .inl l => l.length
  | .inr (.inl l) => l.length
  | .inr (.inr l) => l.length
def xx_aln (xs : List Int32) (st : List Value) (h : xx_H) : Option (List Value × xx_H) := match st with
  | .retAddr 0 :: r => some (.int (nI xs.length) :: r, h)
  | .retAddr (k + 1) :: r => (xx_kb (k + 1)).bind fun l => some (.int (nI l.length) :: r, h)
  | _ => xx_pr st fun a r => xx_ar h a fun t c => if t < 5 then some (.int (nI (xx_cl c)) :: r, h) else none
/-- instructions that touch the heap: the new stack and the new heap -/
def xx_hp (P : xx_P) (i : Instr) (q : Nat) (st : List Value) (h : xx_H) : Option (List Value × xx_H) := match i with
  | .nop => if q = 0 then none else some (.retAddr q :: st, h)
  | .getfield _ => (match st with
    | .retAddr k :: r => (xx_kf k q).bind fun v => some (v :: r, h)
    | _ => xx_pr st fun a r => xx_ob h a fun c fs => if c = q / 64 then (fs[q % 64]?).bind fun v => some (v :: r, h) else none)
  | .putfield _ => match st with
    | v :: r => xx_pr r fun a r => xx_ob h a fun c fs => if c = q / 64 ∧ q % 64 < fs.length ∧ (((P.2.1 c)[q % 64]?).any fun ty => xx_fit ty v) = true then some (r, h.set a (.inr (c, fs.set (q % 64) v))) else none
    | [] => none
  | .getstatic _ => some (.int (nI q) :: st, h)
  | .new _ => some (.ref h.length :: st, h ++ [.inr (q, (P.2.1 q).map defaultValue)])
  | .newarray t => xx_pi st fun n r => if n < 0 ∨ 1000000 < n.toNatClampNeg then none else (xx_new t n.toNatClampNeg).bind fun c => some (.ref h.length :: r, h ++ [c])
  | .arraylength => xx_aln P.2.2 st h
  | .iaload => xx_pi st fun i r => (match r with
    | .retAddr 0 :: r => (xx_at P.2.2 i).bind fun x => some (.int x :: r, h)
    | _ => xx_pr r fun a r => xx_ar h a fun t c => if t = 0 then xx_int c fun l => (xx_at l i).bind fun x => some (.int x :: r, h) else none)
  | .baload => xx_pi st fun i r => (match r with
    | .retAddr k :: r => (xx_kb k).bind fun l => (xx_at l i).bind fun x => some (.int x :: r, h)
    | _ => xx_pr r fun a r => xx_ar h a fun t c => if t = 1 ∨ t = 3 then xx_int c fun l => (xx_at l i).bind fun x => some (.int x :: r, h) else none)
  | .laload => xx_pi st fun i r => xx_pr r fun a r => xx_ar h a fun t c => if t = 2 then xx_lng c fun l => (xx_at l i).bind fun x => some (.long x :: r, h) else none
  | .aaload => xx_pi st fun i r => xx_pr r fun a r => xx_ar h a fun t c => if t = 4 then xx_rfs c fun l => (xx_at l i).bind fun o => o.bind fun x => some (.ref x :: r, h) else none
  | .multianewarray _ d => if d = 2 then xx_pi st fun k r => xx_pi r fun n r => if n < 0 ∨ k < 0 ∨ 1000 < n.toNatClampNeg ∨ 1000 < k.toNatClampNeg then none else some (.ref h.length :: r, h ++ (.inl (4, .inr (.inr ((List.range n.toNatClampNeg).map fun j => some (h.length + 1 + j)))) :: List.replicate n.toNatClampNeg (.inl (2, .inr (.inl (List.replicate k.toNatClampNeg 0)))))) else none
  | .iastore => xx_pi st fun x r => xx_pi r fun i r => xx_pr r fun a r => xx_ar h a fun t c => if t = 0 then xx_int c fun l => (xx_put l i x).bind fun l => some (r, h.set a (.inl (t, .inl l))) else none
  | .bastore => xx_pi st fun x r => xx_pi r fun i r => xx_pr r fun a r => xx_ar h a fun t c => if t = 1 then xx_int c fun l => (xx_put l i (vp_nar .boolean x)).bind fun l => some (r, h.set a (.inl (t, .inl l))) else if t = 3 then xx_int c fun l => (xx_put l i (vp_nar .byte x)).bind fun l => some (r, h.set a (.inl (t, .inl l))) else none
  | .lastore => xx_pl st fun x r => xx_pi r fun i r => xx_pr r fun a r => xx_ar h a fun t c => if t = 2 then xx_lng c fun l => (xx_put l i x).bind fun l => some (r, h.set a (.inl (t, .inr (.inl l)))) else none
  | _ => none
/-- the end of a method: the value that it hands back -/
def xx_end (i : Instr) (ret : Option FieldType) (st : List Value) : Option (Option Value) := match i with
  | .ireturn => (match st with
    | [.int x] => if (ret.any fun ty => (ty == .int || ty == .boolean || ty == .byte || ty == .char) && xx_fit ty (.int x)) = true then some (some (.int x)) else none
    | _ => none)
  | .lreturn => (match st with
    | [.long x] => if ret = some .long then some (some (.long x)) else none
    | _ => none)
  | .areturn => (match st with
    | [.ref x] => if (ret.any fun ty => xx_fit ty (.ref x)) = true then some (some (.ref x)) else none
    | _ => none)
  | .return_ => (match st with
    | [] => if ret = none then some none else none
    | _ => none)
  | _ => none
/-- locals at a method's entry -/
def xx_flat (as : List Value) : xx_L := as.flatMap fun v => if v.category = 2 then [some v, none] else [some v]
def xx_ent (n : Nat) (as : List Value) : xx_L := xx_flat as ++ List.replicate (n - (xx_flat as).length) none
/-- a call: the callee, its arguments, the rest of the stack (8 words of it at most). The class of the receiver is looked at -/
def xx_sc (v : Value) : Bool := match v with
  | .retAddr 0 => true
  | _ => false
def xx_call (P : xx_P) (i : Instr) (q : Nat) (st : List Value) (h : xx_H) : Option (Nat × List Value × List Value) :=
  if q < 10 ∨ st.length < (P.1 q).2.2.1 ∨ 8 < ((st.drop (P.1 q).2.2.1).map Value.category).sum ∨ (st.take (P.1 q).2.2.1).any xx_sc = true ∨ (P.1 q).2.1 < (xx_flat (st.take (P.1 q).2.2.1)).length then none else match i with
  | .invokestatic _ => if (P.1 q).2.2.2.2 = 0 then some (q, (st.take (P.1 q).2.2.1).reverse, st.drop (P.1 q).2.2.1) else none
  | .invokevirtual _ => (match (st.take (P.1 q).2.2.1).reverse with
    | .ref a :: as => xx_ob h a fun c _ => if (P.1 q).2.2.2.2 = c + 1 then some (q, .ref a :: as, st.drop (P.1 q).2.2.1) else none
    | .retAddr k :: as => if k = 3 ∧ (P.1 q).2.2.2.2 = 64 then some (q, .retAddr k :: as, st.drop (P.1 q).2.2.1) else none
    | _ => none)
  | .invokespecial _ => (match (st.take (P.1 q).2.2.1).reverse with
    | .ref a :: as => xx_ob h a fun _ _ => if (P.1 q).2.2.2.2 = 0 then none else some (q, .ref a :: as, st.drop (P.1 q).2.2.1)
    | _ => none)
  | _ => none
/-- System.arraycopy of ints, of longs -/
def xx_cpy {α : Type} (f g : List α) (sp dp n : Nat) : List α := g.take dp ++ ((f.drop sp).take n ++ g.drop (dp + n))
def xx_ac (st : List Value) (h : xx_H) : Option (List Value × xx_H) := xx_pi st fun n r => xx_pi r fun dp r => xx_pr r fun a r => xx_pi r fun sp r => xx_pr r fun a0 r =>
  if n < 0 ∨ dp < 0 ∨ sp < 0 ∨ 8 < (r.map Value.category).sum then none else xx_ar h a0 fun t0 c0 => xx_ar h a fun t c =>
    if t0 = 0 ∧ t = 0 then xx_int c0 fun f => xx_int c fun g => if sp.toNatClampNeg + n.toNatClampNeg ≤ f.length ∧ dp.toNatClampNeg + n.toNatClampNeg ≤ g.length then some (r, h.set a (.inl (0, .inl (xx_cpy f g sp.toNatClampNeg dp.toNatClampNeg n.toNatClampNeg)))) else none
    else if t0 = 2 ∧ t = 2 then xx_lng c0 fun f => xx_lng c fun g => if sp.toNatClampNeg + n.toNatClampNeg ≤ f.length ∧ dp.toNatClampNeg + n.toNatClampNeg ≤ g.length then some (r, h.set a (.inl (2, .inr (.inl (xx_cpy f g sp.toNatClampNeg dp.toNatClampNeg n.toNatClampNeg))))) else none
    else if t0 = 3 ∧ t = 3 then xx_int c0 fun f => xx_int c fun g => if sp.toNatClampNeg + n.toNatClampNeg ≤ f.length ∧ dp.toNatClampNeg + n.toNatClampNeg ≤ g.length ∧ (f.all fun x => fits .byte (.int x)) = true then some (r, h.set a (.inl (3, .inl (xx_cpy f g sp.toNatClampNeg dp.toNatClampNeg n.toNatClampNeg)))) else none
    else none
/-- Object's constructor does nothing; arraycopy -/
def xx_prm (i : Instr) (q : Nat) (st : List Value) (h : xx_H) : Option (List Value × xx_H) := match i with
  | .invokespecial _ => if q = 0 then xx_pr st fun _ r => if 8 < (r.map Value.category).sum then none else some (r, h) else none
  | .invokestatic _ => if q = 1 then xx_ac st h else none
  | _ => none
/-- the run of a method's body from a place on, d calls deep at most: what it hands back, the heap behind it -/
def xx_run (P : xx_P) : Nat → Nat → Nat → Nat → xx_L → List Value → xx_H → Option (Option Value × xx_H)
  | 0, _, _, _, _, _, _ => none
  | f + 1, d, m, pc, ls, st, h => match (P.1 m).1 pc with
    | none => none
    | some (i, len, q, _) => match xx_loc i len q pc ls st with
      | some (pc', ls', st') => xx_run P f d m pc' ls' st' h
      | none => match xx_hp P i q st h with
        | some (st', h') => xx_run P f d m (pc + len) ls st' h'
        | none => match xx_end i (P.1 m).2.2.2.1 st with
          | some v => some (v, h)
          | none => match xx_prm i q st h with
            | some (st', h') => if d = 0 then none else xx_run P f d m (pc + len) ls st' h'
            | none => match d with
              | 0 => none
              | d' + 1 => match xx_call P i q st h with
                | some (y, as, st') => (match xx_run P f d' y 0 (xx_ent (P.1 y).2.1 as) [] h with
                  | some (v, h') => xx_run P f (d' + 1) m (pc + len) ls (v.toList ++ st') h'
                  | none => none)
                | none => none
