/-! ===== xx_: what the executor's heaps stand for ===== -/
def xx_e (b : xx_B) (cs : Nat → ClassId) (as : List Nat) (e : xx_E) : va_E := match e with
  | .inl (t, .inl l) => .inl (cs t, l.length, .inl (fun j => l.getD j 0))
  | .inl (t, .inr (.inl l)) => .inl (cs t, l.length, .inr (.inl (fun j => l.getD j 0)))
  | .inl (t, .inr (.inr l)) => .inl (cs t, l.length, .inr (.inr (.inr (.inr (fun j => (l.getD j none).map (fun i => as.getD i 0))))))
  | .inr (ci, fs) => .inr (ci, fs.map (xx_v b as))
def xx_w (b : xx_B) (cs : Nat → ClassId) (as : List Nat) (h : xx_H) : va_W := (as.zip h).map (fun q => (q.1, xx_e b cs as q.2))
def xx_ty (cs : Nat → ClassId) : List (ClassId × FieldType) := [(cs 0, .int), (cs 1, .boolean), (cs 2, .long), (cs 3, .byte), (cs 4, .array .long)]
theorem xx_w_len {b : xx_B} {cs : Nat → ClassId} {as : List Nat} {h : xx_H} (hl : as.length = h.length) : (xx_w b cs as h).length = h.length := by
  unfold xx_w
  rw [List.length_map, List.length_zip, hl, Nat.min_self]
theorem xx_w_at {b : xx_B} {cs : Nat → ClassId} {as : List Nat} {h : xx_H} {i : Nat} {e : xx_E} (hl : as.length = h.length) (he : h[i]? = some e) : (xx_w b cs as h)[i]? = some (as.getD i 0, xx_e b cs as e) := by
  have hi := (List.getElem?_eq_some_iff.mp he).1
  have ha : as[i]? = some (as.getD i 0) := by
    rw [List.getD_eq_getElem?_getD, List.getElem?_eq_getElem (by omega)]
    rfl
  unfold xx_w
  rw [List.getElem?_map, (List.getElem?_zip_eq_some (z := (as.getD i 0, e))).mpr ⟨ha, he⟩]
  rfl
theorem xx_w_set {b : xx_B} {cs : Nat → ClassId} {as : List Nat} {h : xx_H} {i : Nat} {e : xx_E} (hl : as.length = h.length) (hi : i < h.length) : (xx_w b cs as h).set i (as.getD i 0, xx_e b cs as e) = xx_w b cs as (h.set i e) := by
  apply List.ext_getElem?
  intro j
  by_cases hj : j = i
  · subst hj
    rw [List.getElem?_set_self (by rw [xx_w_len hl]; exact hi), xx_w_at (by rw [List.length_set]; exact hl) (List.getElem?_set_self hi)]
  · rw [List.getElem?_set_ne (Ne.symm hj)]
    cases hg : h[j]? with
    | some e' => rw [xx_w_at hl hg, xx_w_at (e := e') (by rw [List.length_set]; exact hl) (by rw [List.getElem?_set_ne (Ne.symm hj)]; exact hg)]
    | none =>
      have h1 : h.length ≤ j := by simpa using hg
      rw [List.getElem?_eq_none (by rw [xx_w_len hl]; exact h1), List.getElem?_eq_none (by rw [xx_w_len (by rw [List.length_set]; exact hl), List.length_set]; exact h1)]
/-- values, cells, heaps that lead nowhere outside; sc: the script may be there -/
def xx_okv (n : Nat) (sc : Bool) (v : Value) : Prop := match v with
  | .ref a => a < n
  | .retAddr k => k = 0 → sc = true
  | _ => True
def xx_oke (n : Nat) (e : xx_E) : Prop := match e with
  | .inl (_, .inl _) => True
  | .inl (_, .inr (.inl _)) => True
  | .inl (_, .inr (.inr l)) => ∀ a, some a ∈ l → a < n
  | .inr (_, fs) => ∀ v ∈ fs, xx_okv n false v
def xx_okh (h : xx_H) : Prop := ∀ e ∈ h, xx_oke h.length e
def xx_oks (n : Nat) (sc : Bool) (st : List Value) : Prop := ∀ v ∈ st, xx_okv n sc v
def xx_okl (n : Nat) (sc : Bool) (ls : xx_L) : Prop := ∀ v, some v ∈ ls → xx_okv n sc v
theorem xx_okv.mono {n n' : Nat} {sc : Bool} {v : Value} (h : xx_okv n sc v) (hn : n ≤ n') : xx_okv n' sc v := by
  cases v <;> first | exact Nat.lt_of_lt_of_le h hn | exact h
theorem xx_okv.sc {n : Nat} {sc : Bool} {v : Value} (h : xx_okv n false v) : xx_okv n sc v := by
  cases v <;> first | exact h | exact fun z => absurd (h z) (by decide)
theorem xx_oke.mono {n n' : Nat} {e : xx_E} (h : xx_oke n e) (hn : n ≤ n') : xx_oke n' e := by
  match e, h with
  | .inl (_, .inl _), _ => trivial
  | .inl (_, .inr (.inl _)), _ => trivial
  | .inl (_, .inr (.inr l)), h => exact fun a ha => Nat.lt_of_lt_of_le (h a ha) hn
  | .inr (_, fs), h => exact fun v hv => (h v hv).mono hn
theorem xx_oks.mono {n n' : Nat} {sc : Bool} {st : List Value} (h : xx_oks n sc st) (hn : n ≤ n') : xx_oks n' sc st := fun v hv => (h v hv).mono hn
theorem xx_okl.mono {n n' : Nat} {sc : Bool} {ls : xx_L} (h : xx_okl n sc ls) (hn : n ≤ n') : xx_okl n' sc ls := fun v hv => (h v hv).mono hn
theorem xx_gd {as t : List Nat} {i : Nat} (h : i < as.length) : (as ++ t).getD i 0 = as.getD i 0 := by
  rw [List.getD_eq_getElem?_getD, List.getD_eq_getElem?_getD, List.getElem?_append_left h]
theorem xx_v_app {b : xx_B} {as t : List Nat} {sc : Bool} {v : Value} (h : xx_okv as.length sc v) : xx_v b (as ++ t) v = xx_v b as v := by
  cases v <;> first | rfl | exact congrArg Value.ref (xx_gd h)
theorem xx_e_app {b : xx_B} {cs : Nat → ClassId} {as t : List Nat} {e : xx_E} (h : xx_oke as.length e) : xx_e b cs (as ++ t) e = xx_e b cs as e := by
  match e, h with
  | .inl (_, .inl _), _ => rfl
  | .inl (_, .inr (.inl _)), _ => rfl
  | .inl (_, .inr (.inr l)), h =>
    have hf : (fun j => (l.getD j none).map (fun i => (as ++ t).getD i 0)) = (fun j => (l.getD j none).map (fun i => as.getD i 0)) := by
      funext j
      cases hj : l.getD j none with
      | none => rfl
      | some i =>
        have hm : some i ∈ l := by
          rw [List.getD_eq_getElem?_getD] at hj
          cases hg : l[j]? with
          | none => rw [hg] at hj; cases hj
          | some o => rw [hg] at hj; have hj : o = some i := hj; subst hj; exact List.mem_of_getElem? hg
        exact congrArg some (xx_gd (h i hm))
    show (Sum.inl (_, l.length, Sum.inr (Sum.inr (Sum.inr (Sum.inr _)))) : va_E) = _
    rw [hf]
    rfl
  | .inr (ci, fs), h =>
    have hf : fs.map (xx_v b (as ++ t)) = fs.map (xx_v b as) := List.map_congr_left fun v hv => xx_v_app (h v hv)
    show (Sum.inr (ci, _) : va_E) = _
    rw [hf]
    rfl
theorem xx_st_app {b : xx_B} {as t : List Nat} {sc : Bool} {st : List Value} (h : xx_oks as.length sc st) : st.map (xx_v b (as ++ t)) = st.map (xx_v b as) := List.map_congr_left fun v hv => xx_v_app (h v hv)
theorem xx_w_app {b : xx_B} {cs : Nat → ClassId} {as t : List Nat} {h h2 : xx_H} (hl : as.length = h.length) (ho : xx_okh h) : xx_w b cs (as ++ t) (h ++ h2) = xx_w b cs as h ++ (t.zip h2).map (fun q => (q.1, xx_e b cs (as ++ t) q.2)) := by
  unfold xx_w
  rw [List.zip_append hl, List.map_append]
  congr 1
  apply List.map_congr_left
  intro q hq
  rw [xx_e_app (by rw [hl]; exact ho _ (List.of_mem_zip hq).2)]
theorem xx_has_app {A : Array Slot} {nL : Nat} {b : xx_B} {as t : List Nat} {sc : Bool} {ls : xx_L} (hl : xx_has A nL b as ls) (ho : xx_okl as.length sc ls) : xx_has A nL b (as ++ t) ls := by
  refine ⟨hl.1, hl.2.1, hl.2.2.1, fun i v hi => ?_⟩
  rw [xx_v_app (ho v (List.mem_of_getElem? hi))]
  exact hl.2.2.2 i v hi
/-- how many fields and elements -/
def xx_es (e : xx_E) : Nat := match e with
  | .inl (_, .inl l) => l.length
  | .inl (_, .inr (.inl l)) => l.length
  | .inl (_, .inr (.inr l)) => l.length
  | .inr (_, fs) => fs.length
def xx_sz (h : xx_H) : Nat := (h.map xx_es).sum
theorem xx_sz_app (h h2 : xx_H) : xx_sz (h ++ h2) = xx_sz h + xx_sz h2 := by
  unfold xx_sz
  rw [List.map_append, List.sum_append]
theorem xx_sz_set {h : xx_H} {i : Nat} {e e' : xx_E} (he : h[i]? = some e) (hs : xx_es e' = xx_es e) : xx_sz (h.set i e') = xx_sz h := by
  unfold xx_sz
  have hm : (h.set i e').map xx_es = h.map xx_es := by
    rw [List.map_set, hs]
    apply List.ext_getElem?
    intro j
    by_cases hj : j = i
    · subst hj
      have hi := (List.getElem?_eq_some_iff.mp he).1
      rw [List.getElem?_set_self (by rw [List.length_map]; exact hi), List.getElem?_map, he]
      rfl
    · rw [List.getElem?_set_ne (Ne.symm hj)]
  rw [hm]
theorem xx_okh_set {h : xx_H} {i : Nat} {e : xx_E} (ho : xx_okh h) (he : xx_oke h.length e) : xx_okh (h.set i e) := by
  intro x hx
  rw [List.length_set]
  rcases List.mem_or_eq_of_mem_set hx with h1 | h1
  · exact ho x h1
  · rw [h1]; exact he
theorem xx_okh_app {h h2 : xx_H} (ho : xx_okh h) (he : ∀ e ∈ h2, xx_oke (h.length + h2.length) e) : xx_okh (h ++ h2) := by
  intro x hx
  rw [List.length_append]
  rcases List.mem_append.mp hx with h1 | h1
  · exact (ho x h1).mono (Nat.le_add_right _ _)
  · exact he x h1
/-- arrays as functions -/
theorem xx_upd {l : List Int32} {k : Nat} {x : Int32} (hk : k < l.length) : upd (fun j => l.getD j 0) k x = fun j => (l.set k x).getD j 0 := by
  funext j
  by_cases e : j = k
  · subst e
    rw [pk_us, List.getD_eq_getElem?_getD, List.getElem?_set_self hk]
    rfl
  · rw [pk_un e, List.getD_eq_getElem?_getD, List.getD_eq_getElem?_getD, List.getElem?_set_ne (Ne.symm e)]
theorem xx_updL {l : List Int64} {k : Nat} {x : Int64} (hk : k < l.length) : vp_updL (fun j => l.getD j 0) k x = fun j => (l.set k x).getD j 0 := by
  funext j
  by_cases e : j = k
  · subst e
    rw [pk_uLs, List.getD_eq_getElem?_getD, List.getElem?_set_self hk]
    rfl
  · rw [pk_uLn e, List.getD_eq_getElem?_getD, List.getD_eq_getElem?_getD, List.getElem?_set_ne (Ne.symm e)]
theorem xx_at_inv {α : Type} {l : List α} {i : Int32} {x : α} (h : xx_at l i = some x) : vp_in i l.length ∧ l[i.toNatClampNeg]? = some x := by
  unfold xx_at at h
  split at h
  · cases h
  · rename_i hi
    refine ⟨fun z => z.elim hi (fun z => ?_), h⟩
    have := (List.getElem?_eq_some_iff.mp h).1
    omega
theorem xx_put_inv {α : Type} {l l' : List α} {i : Int32} {x : α} (h : xx_put l i x = some l') : vp_in i l.length ∧ i.toNatClampNeg < l.length ∧ l' = l.set i.toNatClampNeg x := by
  unfold xx_put at h
  split at h
  · cases h
  · rename_i hi
    cases h
    exact ⟨hi, Nat.lt_of_not_le (fun z => hi (Or.inr z)), rfl⟩
theorem xx_ar_inv {α : Type} {h : xx_H} {a : Nat} {k : Nat → xx_A → Option α} {z : α} (h1 : xx_ar h a k = some z) : ∃ t c, h[a]? = some (.inl (t, c)) ∧ k t c = some z := by
  unfold xx_ar at h1
  split at h1
  · exact ⟨_, _, by assumption, h1⟩
  · cases h1
theorem xx_ob_inv {α : Type} {h : xx_H} {a : Nat} {k : Nat → List Value → Option α} {z : α} (h1 : xx_ob h a k = some z) : ∃ t c, h[a]? = some (.inr (t, c)) ∧ k t c = some z := by
  unfold xx_ob at h1
  split at h1
  · exact ⟨_, _, by assumption, h1⟩
  · cases h1
theorem xx_int_inv {α : Type} {c : xx_A} {k : List Int32 → Option α} {z : α} (h1 : xx_int c k = some z) : ∃ l, c = .inl l ∧ k l = some z := by
  unfold xx_int at h1
  split at h1
  · exact ⟨_, rfl, h1⟩
  · cases h1
theorem xx_lng_inv {α : Type} {c : xx_A} {k : List Int64 → Option α} {z : α} (h1 : xx_lng c k = some z) : ∃ l, c = .inr (.inl l) ∧ k l = some z := by
  unfold xx_lng at h1
  split at h1
  · exact ⟨_, rfl, h1⟩
  · cases h1
theorem xx_rfs_inv {α : Type} {c : xx_A} {k : List (Option Nat) → Option α} {z : α} (h1 : xx_rfs c k = some z) : ∃ l, c = .inr (.inr l) ∧ k l = some z := by
  unfold xx_rfs at h1
  split at h1
  · exact ⟨_, rfl, h1⟩
  · cases h1
theorem xx_bind_inv {α β : Type} {o : Option α} {k : α → Option β} {z : β} (h : o.bind k = some z) : ∃ x, o = some x ∧ k x = some z := by
  cases o with
  | none => cases h
  | some x => exact ⟨x, rfl, h⟩
theorem xx_char {x : Int32} (h0 : 0 ≤ x) (h1 : x ≤ 65535) : x.toUInt32.toUInt16.toUInt32.toInt32 = x := by
  have a0 : (0 : Int) ≤ x.toInt := by simpa using Int32.le_iff_toInt_le.mp h0
  have a1 : x.toInt ≤ 65535 := by simpa using Int32.le_iff_toInt_le.mp h1
  have e : x.toInt = x.toBitVec.toInt := rfl
  rw [e, BitVec.toInt_eq_toNat_cond] at a0 a1
  have hx : x.toBitVec.toNat < 4294967296 := x.toBitVec.isLt
  have a2 : x.toBitVec.toNat < 65536 := by
    split at a0 <;> omega
  apply Int32.toBitVec_inj.mp
  show ((x.toBitVec.setWidth 16).setWidth 32) = x.toBitVec
  apply BitVec.eq_of_toNat_eq
  rw [BitVec.toNat_setWidth, BitVec.toNat_setWidth]
  omega
theorem xx_fit_ok {ty : FieldType} {v : Value} {b : xx_B} {as : List Nat} (h : xx_fit ty v = true) : narrow ty (xx_v b as v) = xx_v b as v ∧ fits ty (xx_v b as v) = true ∧ ∀ z, v ≠ .retAddr z := by
  unfold xx_fit at h
  split at h <;> first | (cases h; done) | (split at h <;> first | exact ⟨rfl, rfl, fun _ z => by cases z⟩ | (cases h; done) | skip)
  · rename_i x
    simp only [Bool.or_eq_true, decide_eq_true_eq] at h
    rcases h with rfl | rfl
    · exact ⟨rfl, rfl, fun _ z => by cases z⟩
    · exact ⟨rfl, rfl, fun _ z => by cases z⟩
  · rename_i x
    have h := of_decide_eq_true h
    refine ⟨?_, ?_, fun _ z => by cases z⟩
    · show narrow .byte (.int x) = .int x
      rw [← h]
      exact pk_nb x
    · show fits .byte (.int x) = true
      rw [← h]
      exact pk_fb x
  · rename_i x
    simp only [Bool.and_eq_true, decide_eq_true_eq] at h
    refine ⟨?_, ?_, fun _ z => by cases z⟩
    · show Value.int x.toUInt32.toUInt16.toUInt32.toInt32 = .int x
      rw [xx_char h.1 h.2]
    · show (decide (0 ≤ x) && decide (x ≤ 65535)) = true
      rw [decide_eq_true h.1, decide_eq_true h.2]
      rfl
