/-! ===== xx_: instructions that touch the heap: what they keep; what the tables say of them ===== -/
theorem xx_okv_def (n : Nat) (sc : Bool) (ty : FieldType) : xx_okv n sc (defaultValue ty) := by cases ty <;> trivial
theorem xx_v_def (b : xx_B) (as : List Nat) (ty : FieldType) : xx_v b as (defaultValue ty) = defaultValue ty := by cases ty <;> rfl
theorem xx_oks_tl {n : Nat} {sc : Bool} {v : Value} {st : List Value} (h : xx_oks n sc (v :: st)) : xx_oks n sc st := fun w hw => h w (List.mem_cons_of_mem _ hw)
theorem xx_oks_cons {n : Nat} {sc : Bool} {v : Value} {st : List Value} (h1 : xx_okv n sc v) (h : xx_oks n sc st) : xx_oks n sc (v :: st) := fun w hw => by
  rcases List.mem_cons.mp hw with rfl | hw
  · exact h1
  · exact h w hw
theorem xx_any {α : Type} {o : Option α} {f : α → Bool} (h : o.any f = true) : ∃ x, o = some x ∧ f x = true := by
  cases o with
  | none => cases h
  | some x => exact ⟨x, rfl, h⟩
/-- what a step of the heap keeps -/
def xx_kp (sc : Bool) (h : xx_H) (st' : List Value) (h' : xx_H) : Prop := xx_okh h' ∧ xx_oks h'.length sc st' ∧ h.length ≤ h'.length ∧ xx_sz h ≤ xx_sz h'
theorem xx_kp_same {sc : Bool} {h : xx_H} {st' : List Value} (ho : xx_okh h) (hs : xx_oks h.length sc st') : xx_kp sc h st' h := ⟨ho, hs, Nat.le_refl _, Nat.le_refl _⟩
theorem xx_kp_set {sc : Bool} {h : xx_H} {st' : List Value} {a : Nat} {e e' : xx_E} (ho : xx_okh h) (hs : xx_oks h.length sc st') (hg : h[a]? = some e) (he : xx_oke h.length e') (hz : xx_es e' = xx_es e) : xx_kp sc h st' (h.set a e') :=
  ⟨xx_okh_set ho he, by rw [List.length_set]; exact hs, by rw [List.length_set]; exact Nat.le_refl _, by rw [xx_sz_set hg hz]; exact Nat.le_refl _⟩
theorem xx_kp_app {sc : Bool} {h h2 : xx_H} {st' : List Value} (ho : xx_okh h) (hs : xx_oks (h.length + h2.length) sc st') (he : ∀ e ∈ h2, xx_oke (h.length + h2.length) e) : xx_kp sc h st' (h ++ h2) :=
  ⟨xx_okh_app ho he, by rw [List.length_append]; exact hs, by rw [List.length_append]; exact Nat.le_add_right _ _, by rw [xx_sz_app]; exact Nat.le_add_right _ _⟩
theorem xx_gf_inv {P : xx_P} {j q : Nat} {st : List Value} {h : xx_H} {z : List Value × xx_H} (hh : xx_hp P (.getfield j) q st h = some z) : (∃ k r v, st = .retAddr k :: r ∧ xx_kf k q = some v ∧ some (v :: r, h) = some z) ∨ (xx_pr st fun a r => xx_ob h a fun c fs => if c = q / 64 then (fs[q % 64]?).bind fun v => some (v :: r, h) else none) = some z := by
  cases st with
  | nil => exact Or.inr hh
  | cons w r =>
    cases w with
    | retAddr k =>
      obtain ⟨v, hv, h4⟩ := xx_bind_inv (show (xx_kf k q).bind (fun v => some (v :: r, h)) = some z from hh)
      exact Or.inl ⟨_, _, v, rfl, hv, h4⟩
    | _ => exact Or.inr hh
theorem xx_kf_inv {k q : Nat} {v : Value} (h : xx_kf k q = some v) : k = 3 ∧ ((q = 4032 ∧ v = .retAddr 4) ∨ (q = 4033 ∧ v = .int 0)) := by
  unfold xx_kf at h
  split at h
  · rename_i hk
    refine ⟨hk, ?_⟩
    split at h
    · cases h; exact Or.inl ⟨rfl, rfl⟩
    · cases h; exact Or.inr ⟨rfl, rfl⟩
    · cases h
  · cases h
theorem xx_kf_ok {n k q : Nat} {sc : Bool} {v : Value} (h : xx_kf k q = some v) : xx_okv n sc v := by
  obtain ⟨-, ⟨-, rfl⟩ | ⟨-, rfl⟩⟩ := xx_kf_inv h
  · exact fun z => absurd z (by decide)
  · trivial
theorem xx_hp_kp {P : xx_P} {i : Instr} {q : Nat} {sc : Bool} {st st' : List Value} {h h' : xx_H} (ho : xx_okh h) (hs : xx_oks h.length sc st) (hh : xx_hp P i q st h = some (st', h')) : xx_kp sc h st' h' := by
  cases i with
  | nop =>
    have hh : (if q = 0 then none else some (.retAddr q :: st, h)) = some (st', h') := hh
    split at hh
    · cases hh
    · rename_i hq
      cases hh
      exact xx_kp_same ho (xx_oks_cons (fun z => absurd z hq) hs)
  | getfield k =>
    rcases xx_gf_inv hh with ⟨k9, r, v, rfl, hv, h4⟩ | hh
    · cases h4
      exact xx_kp_same ho (xx_oks_cons (xx_kf_ok hv) (xx_oks_tl hs))
    obtain ⟨a, r, rfl, h2⟩ := xx_pr_inv hh
    obtain ⟨t, fs, hg, h3⟩ := xx_ob_inv h2
    split at h3
    · obtain ⟨v, hv, h4⟩ := xx_bind_inv h3
      cases h4
      exact xx_kp_same ho (xx_oks_cons (xx_okv.sc ((ho _ (List.mem_of_getElem? hg)) v (List.mem_of_getElem? hv))) (xx_oks_tl hs))
    · cases h3
  | putfield k =>
    cases st with
    | nil => cases hh
    | cons v r =>
      obtain ⟨a, r, rfl, h2⟩ := xx_pr_inv hh
      obtain ⟨t, fs, hg, h3⟩ := xx_ob_inv h2
      split at h3
      · rename_i hc
        cases h3
        refine xx_kp_set ho (xx_oks_tl (xx_oks_tl hs)) hg ?_ List.length_set
        intro w hw
        rcases List.mem_or_eq_of_mem_set hw with h1 | h1
        · exact ho _ (List.mem_of_getElem? hg) w h1
        · subst h1
          have hv := hs w List.mem_cons_self
          obtain ⟨ty, -, hty⟩ := xx_any hc.2.2
          have h9 := (xx_fit_ok (b := fun _ => none) (as := []) hty).2.2
          cases w <;> first | exact hv | exact absurd rfl (h9 _)
      · cases h3
  | getstatic k =>
    cases hh
    exact xx_kp_same ho (xx_oks_cons trivial hs)
  | new k =>
    cases hh
    refine xx_kp_app ho (xx_oks_cons (Nat.lt_succ_self _) (xx_oks.mono hs (Nat.le_succ _))) (fun e he => ?_)
    rw [List.mem_singleton.mp he]
    intro w hw
    obtain ⟨ty, -, rfl⟩ := List.mem_map.mp hw
    exact xx_okv_def _ _ ty
  | newarray t =>
    obtain ⟨n, r, rfl, h2⟩ := xx_pi_inv hh
    split at h2
    · cases h2
    · obtain ⟨cv, hc, h4⟩ := xx_bind_inv h2
      cases h4
      refine xx_kp_app ho (xx_oks_cons (Nat.lt_succ_self _) (xx_oks.mono (xx_oks_tl hs) (Nat.le_succ _))) (fun e he => ?_)
      rw [List.mem_singleton.mp he]
      cases t <;> cases hc <;> trivial
  | arraylength =>
    have h2 : xx_aln P.2.2 st h = some (st', h') := hh
    unfold xx_aln at h2
    split at h2
    · cases h2
      exact xx_kp_same ho (xx_oks_cons trivial (xx_oks_tl hs))
    · obtain ⟨l, -, h3⟩ := xx_bind_inv h2
      cases h3
      exact xx_kp_same ho (xx_oks_cons trivial (xx_oks_tl hs))
    · obtain ⟨a, r, rfl, h3⟩ := xx_pr_inv h2
      obtain ⟨t, c, hg, h4⟩ := xx_ar_inv h3
      split at h4
      · cases h4
        exact xx_kp_same ho (xx_oks_cons trivial (xx_oks_tl hs))
      · cases h4
  | iaload =>
    obtain ⟨x, r, rfl, h2⟩ := xx_pi_inv hh
    have hs := xx_oks_tl hs
    split at h2
    · obtain ⟨y, -, h4⟩ := xx_bind_inv h2
      cases h4
      exact xx_kp_same ho (xx_oks_cons trivial (xx_oks_tl hs))
    · obtain ⟨a, r, rfl, h3⟩ := xx_pr_inv h2
      obtain ⟨t, c, hg, h4⟩ := xx_ar_inv h3
      split at h4
      · obtain ⟨l, rfl, h5⟩ := xx_int_inv h4
        obtain ⟨y, -, h6⟩ := xx_bind_inv h5
        cases h6
        exact xx_kp_same ho (xx_oks_cons trivial (xx_oks_tl hs))
      · cases h4
  | baload =>
    obtain ⟨x, r, rfl, h2⟩ := xx_pi_inv hh
    have hs := xx_oks_tl hs
    split at h2
    · obtain ⟨l, -, h4⟩ := xx_bind_inv h2
      obtain ⟨y, -, h6⟩ := xx_bind_inv h4
      cases h6
      exact xx_kp_same ho (xx_oks_cons trivial (xx_oks_tl hs))
    · obtain ⟨a, r, rfl, h3⟩ := xx_pr_inv h2
      obtain ⟨t, c, hg, h4⟩ := xx_ar_inv h3
      split at h4
      · obtain ⟨l, rfl, h5⟩ := xx_int_inv h4
        obtain ⟨y, -, h6⟩ := xx_bind_inv h5
        cases h6
        exact xx_kp_same ho (xx_oks_cons trivial (xx_oks_tl hs))
      · cases h4
  | laload =>
    obtain ⟨x, r, rfl, h2⟩ := xx_pi_inv hh
    have hs := xx_oks_tl hs
    obtain ⟨a, r, rfl, h3⟩ := xx_pr_inv h2
    obtain ⟨t, c, hg, h4⟩ := xx_ar_inv h3
    split at h4
    · obtain ⟨l, rfl, h5⟩ := xx_lng_inv h4
      obtain ⟨y, -, h6⟩ := xx_bind_inv h5
      cases h6
      exact xx_kp_same ho (xx_oks_cons trivial (xx_oks_tl hs))
    · cases h4
  | aaload =>
    obtain ⟨x, r, rfl, h2⟩ := xx_pi_inv hh
    have hs := xx_oks_tl hs
    obtain ⟨a, r, rfl, h3⟩ := xx_pr_inv h2
    obtain ⟨t, c, hg, h4⟩ := xx_ar_inv h3
    split at h4
    · obtain ⟨l, rfl, h5⟩ := xx_rfs_inv h4
      obtain ⟨y, hy, h6⟩ := xx_bind_inv h5
      obtain ⟨z, rfl, h7⟩ := xx_bind_inv h6
      cases h7
      exact xx_kp_same ho (xx_oks_cons (ho _ (List.mem_of_getElem? hg) z (List.mem_of_getElem? (xx_at_inv hy).2)) (xx_oks_tl hs))
    · cases h4
  | multianewarray k d =>
    have h1 : (if d = 2 then xx_pi st fun k r => xx_pi r fun n r => if n < 0 ∨ k < 0 ∨ 1000 < n.toNatClampNeg ∨ 1000 < k.toNatClampNeg then none else some (.ref h.length :: r, h ++ (.inl (4, .inr (.inr ((List.range n.toNatClampNeg).map fun j => some (h.length + 1 + j)))) :: List.replicate n.toNatClampNeg (.inl (2, .inr (.inl (List.replicate k.toNatClampNeg 0)))))) else none) = some (st', h') := hh
    split at h1
    · obtain ⟨kk, r, rfl, h2⟩ := xx_pi_inv h1
      obtain ⟨n, r, rfl, h3⟩ := xx_pi_inv h2
      split at h3
      · cases h3
      · cases h3
        refine xx_kp_app ho (xx_oks_cons (show h.length < h.length + _ from Nat.lt_add_of_pos_right (by simp)) (xx_oks.mono (xx_oks_tl (xx_oks_tl hs)) (Nat.le_add_right _ _))) (fun e he => ?_)
        simp only [List.length_cons, List.length_replicate]
        rcases List.mem_cons.mp he with rfl | he
        · intro a ha
          obtain ⟨j, hj, h9⟩ := List.mem_map.mp ha
          have := List.mem_range.mp hj
          cases h9
          omega
        · rw [(List.mem_replicate.mp he).2]
          trivial
    · cases h1
  | iastore =>
    obtain ⟨x, r, rfl, h2⟩ := xx_pi_inv hh
    have hs := xx_oks_tl hs
    obtain ⟨j, r, rfl, h2⟩ := xx_pi_inv h2
    have hs := xx_oks_tl hs
    obtain ⟨a, r, rfl, h3⟩ := xx_pr_inv h2
    obtain ⟨t, c, hg, h4⟩ := xx_ar_inv h3
    split at h4
    · obtain ⟨l, rfl, h5⟩ := xx_int_inv h4
      obtain ⟨y, hy, h6⟩ := xx_bind_inv h5
      cases h6
      obtain ⟨-, -, rfl⟩ := xx_put_inv hy
      exact xx_kp_set ho (xx_oks_tl hs) hg trivial List.length_set
    · cases h4
  | bastore =>
    obtain ⟨x, r, rfl, h2⟩ := xx_pi_inv hh
    have hs := xx_oks_tl hs
    obtain ⟨j, r, rfl, h2⟩ := xx_pi_inv h2
    have hs := xx_oks_tl hs
    obtain ⟨a, r, rfl, h3⟩ := xx_pr_inv h2
    obtain ⟨t, c, hg, h4⟩ := xx_ar_inv h3
    split at h4
    · obtain ⟨l, rfl, h5⟩ := xx_int_inv h4
      obtain ⟨y, hy, h6⟩ := xx_bind_inv h5
      cases h6
      obtain ⟨-, -, rfl⟩ := xx_put_inv hy
      exact xx_kp_set ho (xx_oks_tl hs) hg trivial List.length_set
    · split at h4
      · obtain ⟨l, rfl, h5⟩ := xx_int_inv h4
        obtain ⟨y, hy, h6⟩ := xx_bind_inv h5
        cases h6
        obtain ⟨-, -, rfl⟩ := xx_put_inv hy
        exact xx_kp_set ho (xx_oks_tl hs) hg trivial List.length_set
      · cases h4
  | lastore =>
    obtain ⟨x, r, rfl, h2⟩ := xx_pl_inv hh
    have hs := xx_oks_tl hs
    obtain ⟨j, r, rfl, h2⟩ := xx_pi_inv h2
    have hs := xx_oks_tl hs
    obtain ⟨a, r, rfl, h3⟩ := xx_pr_inv h2
    obtain ⟨t, c, hg, h4⟩ := xx_ar_inv h3
    split at h4
    · obtain ⟨l, rfl, h5⟩ := xx_lng_inv h4
      obtain ⟨y, hy, h6⟩ := xx_bind_inv h5
      cases h6
      obtain ⟨-, -, rfl⟩ := xx_put_inv hy
      exact xx_kp_set ho (xx_oks_tl hs) hg trivial List.length_set
    · cases h4
  | _ => exact absurd hh (by simp [xx_hp])
