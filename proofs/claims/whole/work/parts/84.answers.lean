/-! ===== what calls answer, for class and reference ===== -/
def cut (T : Nat) (p : Nat → Bool) : Nat → Bool := fun r => decide (r < T) && p r
theorem mk_cut (p : Nat → Bool) (T : Nat) : mk (fun _ => false) p T = cut T p := funext fun r => Bool.false_or _
def rIs (n : Nat) (sz : Nat → Nat) (fn : Nat) (x y : Int) : Int := if ¬ (0 ≤ x ∧ x < n) then -101 else if ¬ (0 ≤ y ∧ y < sz x.toNat) then -102 else if ¬ (fn < 40) then -104 else fn
abbrev okIs (n : Nat) (sz : Nat → Nat) (fn : Nat) (x y : Int) : Prop := (0 ≤ x ∧ x < n) ∧ (0 ≤ y ∧ y < sz x.toNat) ∧ (fn < 40)
def rCmp (n : Nat) (fn : Nat) (x y h : Int) : Int := if ¬ ((0 ≤ x ∧ x < n) ∧ (0 ≤ y ∧ y < n)) then -101 else if ¬ (0 ≤ h ∧ h ≤ 2) then -102 else if ¬ (fn < 40) then -104 else fn
abbrev okCmp (n : Nat) (fn : Nat) (x y h : Int) : Prop := ((0 ≤ x ∧ x < n) ∧ (0 ≤ y ∧ y < n)) ∧ (0 ≤ h ∧ h ≤ 2) ∧ (fn < 40)
def rMany (n : Nat) (sz : Nat → Nat) (fn : Nat) (x : Int) : Int := if ¬ (allB (trB n sz x) 32 = true) then -102 else if ¬ (fn < 40) then -104 else fn
abbrev okMany (n : Nat) (sz : Nat → Nat) (fn : Nat) (x : Int) : Prop := (allB (trB n sz x) 32 = true) ∧ (fn < 40)
def rJoin (fn : Nat) (op x y : Int) : Int := if ¬ ((0 ≤ x ∧ x < fn) ∧ (0 ≤ y ∧ y < fn)) then -101 else if ¬ (0 ≤ op ∧ op ≤ 5) then -102 else if ¬ (fn < 40) then -104 else fn
abbrev okJoin (fn : Nat) (op x y : Int) : Prop := ((0 ≤ x ∧ x < fn) ∧ (0 ≤ y ∧ y < fn)) ∧ (0 ≤ op ∧ op ≤ 5) ∧ (fn < 40)
def rNot (fn : Nat) (x : Int) : Int := if ¬ (0 ≤ x ∧ x < fn) then -101 else if ¬ (fn < 40) then -104 else fn
abbrev okNot (fn : Nat) (x : Int) : Prop := (0 ≤ x ∧ x < fn) ∧ (fn < 40)
def rChoose (fn : Nat) (x y u : Int) : Int := if ¬ ((0 ≤ x ∧ x < fn) ∧ (0 ≤ y ∧ y < fn) ∧ (0 ≤ u ∧ u < fn)) then -101 else if ¬ (fn < 40) then -104 else fn
abbrev okChoose (fn : Nat) (x y u : Int) : Prop := ((0 ≤ x ∧ x < fn) ∧ (0 ≤ y ∧ y < fn) ∧ (0 ≤ u ∧ u < fn)) ∧ (fn < 40)
def rCond (n : Nat) (sz : Nat → Nat) (fn : Nat) (x y u : Int) : Int := if ¬ ((0 ≤ x ∧ x < fn) ∧ (0 ≤ y ∧ y < n)) then -101 else if ¬ (0 ≤ u ∧ u < sz y.toNat) then -102 else if ¬ (fn < 40) then -104 else fn
abbrev okCond (n : Nat) (sz : Nat → Nat) (fn : Nat) (x y u : Int) : Prop := ((0 ≤ x ∧ x < fn) ∧ (0 ≤ y ∧ y < n)) ∧ (0 ≤ u ∧ u < sz y.toNat) ∧ (fn < 40)
def rQuant (n : Nat) (fn : Nat) (x y : Int) : Int := if ¬ ((0 ≤ x ∧ x < fn) ∧ (0 ≤ y ∧ y < n)) then -101 else if ¬ (fn < 40) then -104 else fn
abbrev okQuant (n : Nat) (fn : Nat) (x y : Int) : Prop := ((0 ≤ x ∧ x < fn) ∧ (0 ≤ y ∧ y < n)) ∧ (fn < 40)
def rSubst (n : Nat) (sz : Nat → Nat) (fn : Nat) (x y u : Int) : Int := if ¬ ((0 ≤ x ∧ x < fn) ∧ (0 ≤ y ∧ y < n) ∧ (0 ≤ u ∧ u < fn)) then -101 else if ¬ (sz y.toNat = 2) then -103 else if ¬ (fn < 40) then -104 else fn
abbrev okSubst (n : Nat) (sz : Nat → Nat) (fn : Nat) (x y u : Int) : Prop := ((0 ≤ x ∧ x < fn) ∧ (0 ≤ y ∧ y < n) ∧ (0 ≤ u ∧ u < fn)) ∧ (sz y.toNat = 2) ∧ (fn < 40)
def rExch (n : Nat) (sz : Nat → Nat) (fn : Nat) (x y u : Int) : Int := if ¬ ((0 ≤ x ∧ x < fn) ∧ (0 ≤ y ∧ y < n) ∧ (0 ≤ u ∧ u < n)) then -101 else if ¬ (sz y.toNat = sz u.toNat) then -103 else if ¬ (fn < 40) then -104 else fn
abbrev okExch (n : Nat) (sz : Nat → Nat) (fn : Nat) (x y u : Int) : Prop := ((0 ≤ x ∧ x < fn) ∧ (0 ≤ y ∧ y < n) ∧ (0 ≤ u ∧ u < n)) ∧ (sz y.toNat = sz u.toNat) ∧ (fn < 40)
def rChoice (n : Nat) (sz : Nat → Nat) (x : Int) : Int := if ¬ (2 ≤ x ∧ x ≤ 6) then -102 else if ¬ (n < 10 ∧ (pr sz n : Int) * x ≤ 1024) then -104 else n
abbrev okChoice (n : Nat) (sz : Nat → Nat) (x : Int) : Prop := (2 ≤ x ∧ x ≤ 6) ∧ (n < 10 ∧ (pr sz n : Int) * x ≤ 1024)
def rWeight (n : Nat) (sz : Nat → Nat) (wt : Nat → Int) (x y u : Int) : Int := if ¬ (0 ≤ x ∧ x < n) then -101 else if ¬ ((0 ≤ y ∧ y < sz x.toNat) ∧ (0 ≤ u ∧ u ≤ 30)) then -102 else wt (x.toNat * 6 + y.toNat)
abbrev okWeight (n : Nat) (sz : Nat → Nat) (wt : Nat → Int) (x y u : Int) : Prop := (0 ≤ x ∧ x < n) ∧ ((0 ≤ y ∧ y < sz x.toNat) ∧ (0 ≤ u ∧ u ≤ 30))
def rRule (n : Nat) (sz : Nat → Nat) (ro : Nat → Bool) (x y : Int) (b : Bool) : Int := if ¬ (0 ≤ x ∧ x < n) then -101 else if ¬ (0 ≤ y ∧ y < sz x.toNat) then -102 else bI (decide (ro (x.toNat * 6 + y.toNat) ≠ b))
abbrev okRule (n : Nat) (sz : Nat → Nat) (ro : Nat → Bool) (x y : Int) (b : Bool) : Prop := (0 ≤ x ∧ x < n) ∧ (0 ≤ y ∧ y < sz x.toNat)
