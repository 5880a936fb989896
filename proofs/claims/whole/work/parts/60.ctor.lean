/-! ===== xc_: the two objects as they are made ===== -/
/-- lists compared from the front (a long one must not be gone into deeply) -/
def xc_l {α : Type} [DecidableEq α] : List α → List α → Bool
  | [], [] => true
  | a :: l, b :: k => if a = b then xc_l l k else false
  | _, _ => false
theorem xc_l_ok {α : Type} [DecidableEq α] : ∀ {l k : List α}, xc_l l k = true → l = k
  | [], [], _ => rfl
  | a :: l, b :: k, h => by
    unfold xc_l at h
    split at h
    · rename_i e
      rw [e, xc_l_ok h]
    · cases h
  | [], _ :: _, h => by cases h
  | _ :: _, [], h => by cases h
def xc_a (x y : xx_A) : Bool := match x, y with
  | .inl l, .inl k => xc_l l k
  | .inr (.inl l), .inr (.inl k) => decide (l = k)
  | .inr (.inr l), .inr (.inr k) => decide (l = k)
  | _, _ => false
def xc_e (x y : xx_E) : Bool := match x, y with
  | .inl (t, a), .inl (u, b) => decide (t = u) && xc_a a b
  | .inr (c, f), .inr (e, g) => decide (c = e) && decide (f = g)
  | _, _ => false
def xc_h : xx_H → xx_H → Bool
  | [], [] => true
  | x :: l, y :: k => xc_e x y && xc_h l k
  | _, _ => false
def xc_b (a : Option (Option Value × xx_H)) (v : Option Value) (h : xx_H) : Bool := match a with
  | some (w, k) => decide (w = v) && xc_h k h
  | none => false
theorem xc_a_ok {x y : xx_A} (h : xc_a x y = true) : x = y := by
  unfold xc_a at h
  split at h
  · rw [xc_l_ok h]
  · rw [of_decide_eq_true h]
  · rw [of_decide_eq_true h]
  · cases h
theorem xc_e_ok {x y : xx_E} (h : xc_e x y = true) : x = y := by
  unfold xc_e at h
  split at h
  · obtain ⟨h1, h2⟩ := Bool.and_eq_true_iff.mp h
    rw [of_decide_eq_true h1, xc_a_ok h2]
  · obtain ⟨h1, h2⟩ := Bool.and_eq_true_iff.mp h
    rw [of_decide_eq_true h1, of_decide_eq_true h2]
  · cases h
theorem xc_h_ok : ∀ {x y : xx_H}, xc_h x y = true → x = y
  | [], [], _ => rfl
  | x :: l, y :: k, h => by
    obtain ⟨h1, h2⟩ := Bool.and_eq_true_iff.mp h
    rw [xc_e_ok h1, xc_h_ok h2]
  | [], _ :: _, h => by cases h
  | _ :: _, [], h => by cases h
theorem xc_eq {a : Option (Option Value × xx_H)} {v : Option Value} {h : xx_H} (hb : xc_b a v h = true) : a = some (v, h) := by
  unfold xc_b at hb
  split at hb
  · obtain ⟨h1, h2⟩ := Bool.and_eq_true_iff.mp hb
    rw [of_decide_eq_true h1, xc_h_ok h2]
  · cases hb
def xc_x0 : xx_H := [.inr (7, [.null, .null, .null, .null, .null, .null, .int 0, .int 0, .int 0, .long 0, .long 0])]
def xc_x : xx_H := [.inr (7, [.ref 1, .ref 7, .ref 52, .ref 64, .ref 69, .ref 177, .int (-1), .int 0, .int (-1), .long 0, .long 0]), .inr (2, [.ref 2, .ref 3, .ref 4, .ref 5, .ref 6, .int 0, .int 0, .int 1]), .inl (0, .inl (List.replicate 10 1)), .inl (0, .inl (List.replicate 10 1)), .inl (0, .inl (List.replicate 60 1)), .inl (1, .inl (List.replicate 60 0)), .inl (2, .inr (.inl (List.replicate 1024 0))), .inr (4, [.ref 1, .ref 8, .ref 49, .ref 50, .ref 51, .int 0, .int 0]), .inl (4, .inr (.inr ((List.range 40).map fun j => some (9 + j))))] ++ (List.replicate 40 (.inl (2, .inr (.inl (List.replicate 16 0)))) ++ ([.inl (2, .inr (.inl (List.replicate 40 0))), .inl (0, .inl (List.replicate 40 0)), .inl (2, .inr (.inl ([1] ++ List.replicate 15 0))), .inr (3, [.ref 1, .ref 53, .ref 54, .ref 55, .ref 56, .ref 57, .ref 58, .ref 59, .ref 60, .ref 61, .ref 62, .ref 63, .int 0, .int 2, .int 0]), .inl (0, .inl (List.replicate 10 0)), .inl (0, .inl (List.replicate 10 0)), .inl (0, .inl (List.replicate 640 0)), .inl (0, .inl (List.replicate 60 0)), .inl (0, .inl (List.replicate 6 0)), .inl (0, .inl ([-1, -1] ++ List.replicate 62 0))] ++ (List.replicate 4 (.inl (0, .inl (List.replicate 64 0))) ++ ([.inl (0, .inl (List.replicate 384 0)), .inr (6, [.ref 65, .ref 66, .ref 67, .ref 68, .int 0, .int 0, .int 0]), .inl (0, .inl (List.replicate 400 0)), .inl (0, .inl (List.replicate 401 0)), .inl (0, .inl (List.replicate 401 0)), .inl (2, .inr (.inl (List.replicate 401 0))), .inr (5, [.ref 64, .ref 1, .ref 7, .ref 70, .int 0, .int 0, .int 0, .int 0]), .inl (4, .inr (.inr ((List.range 106).map fun j => some (71 + j))))] ++ (List.replicate 106 (.inl (2, .inr (.inl (List.replicate 16 0)))) ++ ([.inr (1, [.ref 178, .int 0]), .inl (0, .inl (List.replicate 8192 0))]))))))
theorem xc_X : xx_run (xt_P []) 3000 6 119 0 (xx_ent 1 [.ref 0]) [] xc_x0 = some (none, xc_x) := xc_eq (by decide +kernel)
