/-! ===== the beginning: the invariant ===== -/
def D00 : DT := (fun _ => false, fun _ => 0, fun _ _ => 0, fun x => if x = 1 then evr 1 else fun _ => false)
theorem ok00 {x : Nat} (h : dok D00 0 x) : x < 2 := by
  rcases h with h | h | h
  · exact h
  · cases h
  · omega
theorem dRF00 : dRF S00 58 64 0 (fun _ => 2) (fun i => i) (fun i => i) D00 2 0 (fun _ => 0) (fun _ _ => false) := by
  have hA : dA S00 58 64 := ⟨Or.inl rfl, by decide, by decide, rfl, rfl, rfl, rfl, rfl, rfl, rfl, rfl, rfl, rfl, rfl, rfl⟩
  have hP : dP 0 (fun _ => 2) D00 0 2 := by
    refine ⟨fun x h => (by cases h), Or.inl rfl, fun x h => (by cases h), fun x h => (by cases h), rfl, rfl, fun x y hx hy e => ?_⟩
    have h1 := ok00 hx
    have h2 := ok00 hy
    have hne : ds D00 0 ≠ ds D00 1 := fun z => by
      have h3 := congrFun z 0
      exact absurd h3 (by decide)
    have h3 : x = 0 ∨ x = 1 := by omega
    have h4 : y = 0 ∨ y = 1 := by omega
    rcases h3 with rfl | rfl <;> rcases h4 with rfl | rfl
    · rfl
    · exact absurd e hne
    · exact absurd e.symm hne
    · rfl
  have hM : dM S00 58 (fun _ => 2) D00 (exF (fun _ => 0) 0) 0 2 := ⟨fun x h => (by cases h), rfl, rfl, fun x h => (by cases h), fun x h1 h2 => absurd (ok00 h2) (by omega), fun x h => absurd h (Nat.lt_irrefl 0)⟩
  have hC : dC S00 58 0 (fun _ => 2) D00 (fun _ => (0, fun _ => 0)) := ⟨fun c hc => absurd hc (by omega), fun c _ _ => rfl⟩
  have hF : dF S00 58 D00 0 2 (0, fun _ => 0) := ⟨⟨rfl, fun i hi => absurd hi (Nat.not_lt_zero _), rfl, fun i j hi => absurd hi (Nat.not_lt_zero _)⟩, fun x => ⟨fun ⟨i, hi, _⟩ => absurd hi (Nat.not_lt_zero _), fun h => by omega⟩⟩
  have hG : dG S00 58 64 0 (fun _ => 2) D00 (exF (fun _ => 0) 0) 0 2 := ⟨hA, hP, hM, ⟨_, hC⟩, ⟨_, hF⟩, rfl, rfl, by decide, by decide, fun x _ => rfl⟩
  refine ⟨⟨hG, fun x h => (by cases h), fun x h1 h2 => absurd (ok00 h2) (by omega), ⟨fun q hq => absurd hq (Nat.not_lt_zero _), fun q hq => absurd hq (Nat.not_lt_zero _)⟩, ⟨fun q hq => absurd hq (Nat.not_lt_zero _), fun q hq => absurd hq (Nat.not_lt_zero _)⟩⟩, fun f hf => absurd hf (Nat.not_lt_zero _), by decide, fun f hf => absurd hf (Nat.not_lt_zero _)⟩
theorem row51 : rowS S00 51 0 (evr (pr (fun _ => 2) 0)) := by
  intro k hk
  have h : ∀ k, k < 16 → L00 51 (0 + k) = pkw (evr 1) k := by decide +kernel
  exact h k hk
theorem CI00 : CI S00 0 (fun _ => 2) (fun _ => 1) (fun _ => false) 0 (fun _ _ => false) (fun _ => 0) (fun i => i) none 0 (-1) 0 0 0 := by
  refine ⟨⟨⟨by decide, fun i hi => absurd hi (Nat.not_lt_zero _), by decide⟩, rfl, rfl, fun i hi => absurd hi (Nat.not_lt_zero _), fun i hi => absurd hi (Nat.not_lt_zero _)⟩, fun i hi => ⟨rfl, rfl, (show (0 : Int) ≤ 1 by decide), (show (1 : Int) ≤ 30 by decide)⟩, ⟨false, rfl, fun z => (by cases z)⟩, ⟨rfl, rfl, by decide, fun i hi => absurd hi (Nat.not_lt_zero _), row51, fun i hi => absurd hi (Nat.not_lt_zero _), fun i hi => absurd hi (Nat.not_lt_zero _)⟩, ⟨58, 64, fun i => i, D00, 2, fun _ => 0, dRF00, fun i hi => absurd hi (Nat.not_lt_zero _), Or.inl ⟨rfl, rfl⟩, by decide, by decide⟩, rfl, rfl, rfl, rfl⟩
theorem JI00 : JI S00 := by
  refine ⟨0, fun _ => 2, fun _ => 1, fun _ => false, 0, fun _ _ => false, fun _ => 0, fun i => i, none, 0, -1, 0, 0, 0, fun _ => 0, 0, [], 0, 0, 0, fun _ => 0, fun _ => 0, ⟨CI00, ⟨by decide, fun _ => (show (0 : Nat) < 256 by decide), rfl, fun j hj => absurd hj (Nat.not_lt_zero _)⟩, ⟨rfl, Nat.zero_le _, rfl, fun j hj => absurd hj (Nat.not_lt_zero _)⟩, rfl⟩, ?_, ?_⟩
  · refine ⟨⟨⟨by decide, fun i hi => absurd hi (Nat.not_lt_zero _), by decide⟩, rfl, rfl, fun i hi => absurd hi (Nat.not_lt_zero _), fun i hi => absurd hi (Nat.not_lt_zero _)⟩, fun i hi => absurd hi (by omega), ⟨rfl, by decide, fun i hi => absurd hi (Nat.not_lt_zero _), rfl, by decide, fun i hi => absurd hi (Nat.not_lt_zero _), fun i hi => absurd hi (Nat.not_lt_zero _)⟩, fun i hi => absurd hi (Nat.not_lt_zero _), Or.inl ⟨rfl, rfl⟩, ⟨rfl, fun i hi => absurd hi (by omega)⟩, ⟨rfl, rfl⟩, ⟨by decide, fun _ => (show (0 : Nat) < 256 by decide), rfl, fun j hj => absurd hj (Nat.not_lt_zero _)⟩, ⟨rfl, fun j hj => absurd hj (Nat.not_lt_zero _), by decide⟩, rfl⟩
  · exact ⟨fun z _ => ⟨fun _ => rfl, fun q => absurd rfl q⟩, Nat.le_refl _, fun _ _ _ => ⟨rfl, rfl⟩, ⟨by decide, by decide, Or.inl rfl, by decide, by decide⟩, by decide, by decide, by decide⟩
/-- what the invariant leaves of the room -/
theorem JI_room {S : ST} (h : JI S) : S.1.length ≤ 260000 ∧ tz S ≤ 3010000 := by
  obtain ⟨n, sz, wt, ro, fn, Fn, nm, ord, sd, tr, tn, up, lo, Z, y0, s, L, m, kz, nc, rn, rof, hK, hM, hR⟩ := h
  obtain ⟨b, R, pl, D, U, rt, hRF, hrt, hsd, htz, hln⟩ := hK.1.2.2.2.2.1
  have h1 := hRF.1.1.1.2.2.1
  have h2 := hR.2.2.2.2.1
  have h3 := hK.2.2.1.1
  omega
