/-! ===== the class's diagram: memory, small methods ===== -/
/-- nodes: live, their variables, kids, what they stand for -/
abbrev DT : Type := (Nat → Bool) × (Nat → Nat) × (Nat → Nat → Nat) × (Nat → Nat → Bool)
def dl (D : DT) (x : Nat) : Bool := D.1 x
def dv (D : DT) (x : Nat) : Nat := D.2.1 x
def dk (D : DT) (x k : Nat) : Nat := D.2.2.1 x k
def ds (D : DT) (x : Nat) : Nat → Bool := D.2.2.2 x
def dok (D : DT) (out x : Nat) : Prop := x < 2 ∨ dl D x = true ∨ x = out
/-- what the nodes stand for; out: a node that is taken out of the diagram for a while -/
def dP (n : Nat) (sz : Nat → Nat) (D : DT) (out U : Nat) : Prop := (∀ x, dl D x = true → 2 ≤ x ∧ x < U ∧ x ≠ out) ∧ (out = 0 ∨ (2 ≤ out ∧ out < U)) ∧ (∀ x, dl D x = true → dv D x < n ∧ tbT (pr sz n) (ds D x) ∧ dpT n sz (ds D x) (dv D x) = true) ∧ (∀ x, dl D x = true → ∀ k, k < sz (dv D x) → dok D out (dk D x k) ∧ ds D (dk D x k) = cof n sz (ds D x) (dv D x) k) ∧ ds D 0 = (fun _ => false) ∧ ds D 1 = evr (pr sz n) ∧ (∀ x y, dok D out x → dok D out y → ds D x = ds D y → x = y)
/-- how many kids a node is -/
def edg (sz : Nat → Nat) (D : DT) (U z : Nat) : Nat := sumN (fun x => if dl D x then cntB (fun k => decide (dk D x k = z)) (sz (dv D x)) else 0) U
def hsI (f : Nat → Int) : Nat → Int
  | 0 => 0
  | i + 1 => hsI f i * 31 + f i
def hx (h : Int) : Int := (iI h ^^^ ((iI h).toUInt32 >>> ((iI 6).toUInt32 &&& Int32.toUInt32 31)).toInt32).toInt
def hcI (h : Int) : Nat := (hx h % 64).toNat
theorem hx_eq (h : Int) : iI h ^^^ ((iI h).toUInt32 >>> ((iI 6).toUInt32 &&& Int32.toUInt32 31)).toInt32 = iI (hx h) := (iI_of _).symm
theorem hc_eq (h : Int) : ((hcI h : Nat) : Int) = hx h % ((2 ^ 6 : Nat) : Int) := by
  unfold hcI
  have e : ((2 ^ 6 : Nat) : Int) = 64 := rfl
  rw [e]
  omega
theorem hc_lt (h : Int) : hcI h < 64 := by
  unfold hcI
  omega
theorem hsI_c {f g : Nat → Int} : ∀ {s : Nat}, (∀ k, k < s → f k = g k) → hsI f s = hsI g s
  | 0, _ => rfl
  | s + 1, h => by
    show hsI f s * 31 + f s = hsI g s * 31 + g s
    rw [hsI_c (fun k hk => h k (by omega)), h s (by omega)]
/-- the six rows of the diagram stand side by side -/
def dA (S : ST) (b R : Nat) : Prop := (b = 58 ∨ 203 ≤ b) ∧ 64 ≤ R ∧ R ≤ 131072 ∧ SR S 52 6 = b ∧ SR S 52 7 = b + 1 ∧ SR S 52 8 = b + 2 ∧ SR S 52 9 = b + 3 ∧ SR S 52 10 = b + 4 ∧ SR S 52 11 = b + 5 ∧ kd S b = some (.inl (0, R)) ∧ kd S (b + 1) = some (.inl (0, R)) ∧ kd S (b + 2) = some (.inl (0, R)) ∧ kd S (b + 3) = some (.inl (0, R)) ∧ kd S (b + 4) = some (.inl (0, R)) ∧ kd S (b + 5) = some (.inl (0, 6 * R))
/-- a chain: how long, its nodes; behind them 0 -/
abbrev CQ : Type := Nat × (Nat → Nat)
def lk (N : Nat → Int) (s : Int) (q : CQ) : Prop := s = (q.2 0 : Nat) ∧ (∀ i, i < q.1 → N (q.2 i) = (q.2 (i + 1) : Nat)) ∧ q.2 q.1 = 0 ∧ (∀ i j, i < q.1 → j < q.1 → q.2 i = q.2 j → i = j)
def cmem (q : CQ) (x : Nat) : Prop := ∃ i, i < q.1 ∧ q.2 i = x
def dch (sz : Nat → Nat) (D : DT) (x : Nat) : Nat := dv D x * 64 + hcI (hsI (fun k => ((dk D x k : Nat) : Int)) (sz (dv D x)))
def dM (S : ST) (b : Nat) (sz : Nat → Nat) (D : DT) (ex : Nat → Nat) (out U : Nat) : Prop := (∀ x, dl D x = true → SI S b x = ((dv D x : Nat) : Int)) ∧ SI S b 0 = -1 ∧ SI S b 1 = -1 ∧ (∀ x, dl D x = true → ∀ k, k < sz (dv D x) → SI S (b + 5) (x * 6 + k) = ((dk D x k : Nat) : Int)) ∧ (∀ x, 2 ≤ x → dok D out x → SI S (b + 1) x = ((edg sz D U x + ex x : Nat) : Int)) ∧ (∀ x, 0 < ex x → dok D out x)
def dC (S : ST) (b n : Nat) (sz : Nat → Nat) (D : DT) (ch : Nat → CQ) : Prop := (∀ c, c < n * 64 → lk (SI S (b + 2)) (SI S 55 c) (ch c) ∧ ∀ x, cmem (ch c) x ↔ (dl D x = true ∧ c = dch sz D x)) ∧ (∀ c, n * 64 ≤ c → c < 640 → SI S 55 c = 0)
def dF (S : ST) (b : Nat) (D : DT) (out U : Nat) (fr : CQ) : Prop := lk (SI S (b + 2)) (SI S 52 14) fr ∧ ∀ x, cmem fr x ↔ (2 ≤ x ∧ x < U ∧ dl D x = false ∧ x ≠ out)
def o1 (out : Nat) : Nat := if out = 0 then 0 else 1
/-- the diagram: ex counts users from outside -/
def dG (S : ST) (b R n : Nat) (sz : Nat → Nat) (D : DT) (ex : Nat → Nat) (out U : Nat) : Prop := dA S b R ∧ dP n sz D out U ∧ dM S b sz D ex out U ∧ (∃ ch, dC S b n sz D ch) ∧ (∃ fr, dF S b D out U fr) ∧ SI S 52 12 = ((cntB (dl D) U + o1 out : Nat) : Int) ∧ SI S 52 13 = (U : Nat) ∧ U ≤ R ∧ 2 ≤ U ∧ (∀ x, x < R → SI S (b + 3) x = 0)
theorem rI_ne {S : ST} {a i c : Nat} {z : Int} (h : c ≠ a) (j : Nat) : SI (wI S a i z) c j = SI S c j := congrFun (u2_ne h) j
theorem rI_nj {S : ST} {a i j c : Nat} {z : Int} (h : j ≠ i) : SI (wI S a i z) c j = SI S c j := by
  rw [SI_wI, if_neg (fun e => h e.2)]
theorem rI_at {S : ST} {a i : Nat} {z : Int} : SI (wI S a i z) a i = z := by
  rw [SI_wI, if_pos ⟨rfl, rfl⟩]
theorem rA_ne {S : ST} {a c : Nat} {g : Nat → Int} (h : c ≠ a) (j : Nat) : SI (wIA S a g) c j = SI S c j := by
  rw [SI_wIA, if_neg h]
theorem rA_at {S : ST} {a j : Nat} {g : Nat → Int} : SI (wIA S a g) a j = g j := by
  rw [SI_wIA, if_pos rfl]
/-- a new node's kids, i of them written and counted -/
def nK (S : ST) (b y : Nat) (w : Nat → Nat) (i : Nat) : ST := wIA (wIA S (b + 5) (fun j => if y * 6 ≤ j ∧ j < y * 6 + i then ((w (j - y * 6) : Nat) : Int) else SI S (b + 5) j)) (b + 1) (fun z => SI S (b + 1) z + ((cntB (fun k => decide (w k = z)) i : Nat) : Int))
theorem nK_ne {S : ST} {b y i c : Nat} {w : Nat → Nat} (h1 : c ≠ b + 1) (h5 : c ≠ b + 5) (j : Nat) : SI (nK S b y w i) c j = SI S c j := by
  unfold nK
  rw [rA_ne h1, rA_ne h5]
theorem nK_1 {S : ST} {b y i : Nat} {w : Nat → Nat} (z : Nat) : SI (nK S b y w i) (b + 1) z = SI S (b + 1) z + ((cntB (fun k => decide (w k = z)) i : Nat) : Int) := rA_at
theorem nK_5 {S : ST} {b y i : Nat} {w : Nat → Nat} (j : Nat) : SI (nK S b y w i) (b + 5) j = if y * 6 ≤ j ∧ j < y * 6 + i then ((w (j - y * 6) : Nat) : Int) else SI S (b + 5) j := by
  unfold nK
  rw [rA_ne (by omega), rA_at]
theorem SI_ext {S T : ST} (h1 : S.1 = T.1) (h2 : ∀ c j, SI S c j = SI T c j) (h3 : SL S = SL T) (h4 : SR S = SR T) : S = T := st_ext h1 (funext fun c => funext fun j => h2 c j) h3 h4
theorem nK_0 (S : ST) (b y : Nat) (w : Nat → Nat) : nK S b y w 0 = S := SI_ext rfl (fun c j => by
  by_cases c1 : c = b + 1
  · subst c1
    rw [nK_1]
    show _ + ((0 : Nat) : Int) = _
    omega
  · by_cases c5 : c = b + 5
    · subst c5
      rw [nK_5, if_neg (by omega)]
    · exact nK_ne c1 c5 j) rfl rfl
theorem nK_s {S : ST} {b y i : Nat} {w : Nat → Nat} : wI (wI (nK S b y w i) (b + 5) (y * 6 + i) ((w i : Nat) : Int)) (b + 1) (w i) (SI (nK S b y w i) (b + 1) (w i) + 1) = nK S b y w (i + 1) := SI_ext rfl (fun c j => by
  by_cases c1 : c = b + 1
  · subst c1
    rw [nK_1 (i := i + 1)]
    have hcs : cntB (fun k => decide (w k = j)) (i + 1) = cntB (fun k => decide (w k = j)) i + (if decide (w i = j) then 1 else 0) := rfl
    by_cases cj : j = w i
    · subst cj
      rw [rI_at, nK_1, hcs, if_pos (decide_eq_true rfl)]
      omega
    · rw [rI_nj cj, rI_ne (by omega), nK_1, hcs, if_neg (fun z => cj (of_decide_eq_true z).symm)]
      omega
  · rw [rI_ne c1]
    by_cases c5 : c = b + 5
    · subst c5
      rw [nK_5]
      by_cases cj : j = y * 6 + i
      · subst cj
        rw [rI_at, if_pos (by omega), show y * 6 + i - y * 6 = i from by omega]
      · rw [rI_nj cj, nK_5]
        by_cases cc : y * 6 ≤ j ∧ j < y * 6 + i
        · rw [if_pos cc, if_pos (by omega)]
        · rw [if_neg cc, if_neg (by omega)]
    · rw [rI_ne c5, nK_ne c1 c5, nK_ne c1 c5]) rfl rfl
section DD
variable {X : List Int32} {S : ST} {b R n U : Nat} {sz : Nat → Nat}
theorem c_isNode {x : Nat} (hU : SI S 52 13 = (U : Nat)) (hU2 : U < 2147483648) (hx : x < 2147483648) : sM X 0 27 [.ref 52, .int (iI (x : Nat))] S (sV (some (.int (iI (bI (decide (2 ≤ x ∧ x < U)))))) S) := by
  refine sIni (ls := [some (.ref 52), some (.int (iI ((x : Nat) : Int)))]) rfl ?_
  refine sL (pc' := 1) (i := .iload_n 1) rfl rfl ?_
  refine sKi (p := 2) rfl rfl ?_
  refine sIc_le (p := 5) rfl rfl ⟨by omega, by omega⟩ ⟨by omega, by omega⟩ (fun c1 => ?_) (fun c1 => ?_)
  · have c1 := c1
    refine sKi (p := 18) rfl rfl ?_
    refine sEn (i := .ireturn) rfl (rfl) ?_
    exact sV_f (by omega) rfl
  · have c1 := c1
    refine sL (pc' := 6) (i := .iload_n 1) rfl rfl ?_
    refine sL (pc' := 7) (i := .aload_n 0) rfl rfl ?_
    refine sGi (p := 10) rfl rfl (sk_52 _) rfl rfl rfl hU ?_
    refine sIc_ge (p := 13) rfl rfl ⟨by omega, by omega⟩ ⟨by omega, by omega⟩ (fun c2 => ?_) (fun c2 => ?_)
    · have c2 := c2
      refine sKi (p := 18) rfl rfl ?_
      refine sEn (i := .ireturn) rfl (rfl) ?_
      exact sV_f (by omega) rfl
    · have c2 := c2
      refine sKi (p := 14) rfl rfl ?_
      refine sL (i := .goto 4) rfl rfl ?_
      refine sEn (i := .ireturn) rfl (rfl) ?_
      exact sV_t (by omega) rfl
theorem c_placeOf {v : Nat} {z : Int} (hv : v < 10) (hz : SI S 54 v = z) : sM X 0 28 [.ref 52, .int (iI (v : Nat))] S (sV (some (.int (iI z))) S) := by
  refine sIni (ls := [some (.ref 52), some (.int (iI ((v : Nat) : Int)))]) rfl ?_
  refine sL (pc' := 1) (i := .iload_n 1) rfl rfl ?_
  refine sIf_lt (p := 4) rfl rfl ⟨by omega, by omega⟩ (fun c1 => ?_) (fun c1 => ?_)
  · exfalso; omega
  · have c1 := c1
    refine sL (pc' := 5) (i := .iload_n 1) rfl rfl ?_
    refine sKb (p := 7) rfl rfl ?_
    refine sIc_ge (p := 10) rfl rfl ⟨by omega, by omega⟩ ⟨by omega, by omega⟩ (fun c2 => ?_) (fun c2 => ?_)
    · exfalso; omega
    · have c2 := c2
      refine sL (pc' := 11) (i := .aload_n 0) rfl rfl ?_
      refine sGc (p := 14) rfl rfl (sk_52 _) rfl rfl rfl ?_
      refine sL (pc' := 15) (i := .iload_n 1) rfl rfl ?_
      refine sAi (p := 16) (i := v) rfl rfl (sk_54 _) (by omega) ⟨by omega, by omega⟩ hz ?_
      refine sL (i := .goto 4) rfl rfl ?_
      refine sEn (i := .ireturn) rfl (rfl) ?_
      exact ⟨rfl, rfl⟩
theorem c_variableAt {x : Nat} {z : Int} (hA : dA S b R) (hU : SI S 52 13 = (U : Nat)) (hUR : U ≤ R) (hx : 2 ≤ x ∧ x < U) (hz : SI S b x = z) : sM X 1 29 [.ref 52, .int (iI (x : Nat))] S (sV (some (.int (iI z))) S) := by
  have hb58 := hA.1
  have hR1 := hA.2.1
  have hR2 := hA.2.2.1
  refine sIni (ls := [some (.ref 52), some (.int (iI ((x : Nat) : Int)))]) rfl ?_
  refine sL (pc' := 1) (i := .aload_n 0) rfl rfl ?_
  refine sL (pc' := 2) (i := .iload_n 1) rfl rfl ?_
  refine sCv (p := 5) (as := [_]) rfl rfl rfl rfl (by decide) (Nat.le_of_ble_eq_true rfl) rfl (Nat.le_of_ble_eq_true rfl) (sk_52 _) rfl (by omega) (c_isNode (x := x) hU (by omega) (by omega)) ?_
  refine sBe (p := 8) rfl rfl (fun c1 => ?_) (fun c1 => ?_)
  · exfalso; have c1 := of_decide_eq_false c1; omega
  · have c1 := c1
    have c1 := of_decide_eq_true c1
    refine sL (pc' := 9) (i := .aload_n 0) rfl rfl ?_
    refine sGr (p := 12) rfl rfl (sk_52 _) rfl rfl rfl hA.2.2.2.1 ?_
    refine sL (pc' := 13) (i := .iload_n 1) rfl rfl ?_
    refine sAi (p := 14) (i := x) rfl rfl hA.2.2.2.2.2.2.2.2.2.1 (by omega) ⟨by omega, by omega⟩ hz ?_
    refine sL (i := .goto 4) rfl rfl ?_
    refine sEn (i := .ireturn) rfl (rfl) ?_
    exact ⟨rfl, rfl⟩
theorem c_kidOf {x k : Nat} {z : Int} (hA : dA S b R) (hU : SI S 52 13 = (U : Nat)) (hUR : U ≤ R) (hx : 2 ≤ x ∧ x < U) (hk : k < 6) (hz : SI S (b + 5) (x * 6 + k) = z) : sM X 1 30 [.ref 52, .int (iI (x : Nat)), .int (iI (k : Nat))] S (sV (some (.int (iI z))) S) := by
  have hb58 := hA.1
  have hR1 := hA.2.1
  have hR2 := hA.2.2.1
  refine sIni (ls := [some (.ref 52), some (.int (iI ((x : Nat) : Int))), some (.int (iI ((k : Nat) : Int)))]) rfl ?_
  refine sL (pc' := 1) (i := .aload_n 0) rfl rfl ?_
  refine sL (pc' := 2) (i := .iload_n 1) rfl rfl ?_
  refine sCv (p := 5) (as := [_]) rfl rfl rfl rfl (by decide) (Nat.le_of_ble_eq_true rfl) rfl (Nat.le_of_ble_eq_true rfl) (sk_52 _) rfl (by omega) (c_isNode (x := x) hU (by omega) (by omega)) ?_
  refine sBe (p := 8) rfl rfl (fun c1 => ?_) (fun c1 => ?_)
  · exfalso; have c1 := of_decide_eq_false c1; omega
  · have c1 := c1
    have c1 := of_decide_eq_true c1
    refine sL (pc' := 9) (i := .iload_n 2) rfl rfl ?_
    refine sIf_lt (p := 12) rfl rfl ⟨by omega, by omega⟩ (fun c2 => ?_) (fun c2 => ?_)
    · exfalso; omega
    · have c2 := c2
      refine sL (pc' := 13) (i := .iload_n 2) rfl rfl ?_
      refine sKb (p := 15) rfl rfl ?_
      refine sIc_ge (p := 18) rfl rfl ⟨by omega, by omega⟩ ⟨by omega, by omega⟩ (fun c3 => ?_) (fun c3 => ?_)
      · exfalso; omega
      · have c3 := c3
        refine sL (pc' := 19) (i := .aload_n 0) rfl rfl ?_
        refine sGr (p := 22) rfl rfl (sk_52 _) rfl rfl rfl hA.2.2.2.2.2.2.2.2.1 ?_
        refine sL (pc' := 23) (i := .iload_n 1) rfl rfl ?_
        refine sKb (p := 25) rfl rfl ?_
        refine sMu (p := 26) rfl rfl ?_
        refine sL (pc' := 27) (i := .iload_n 2) rfl rfl ?_
        refine sAd (p := 28) rfl rfl ?_
        refine sAi (p := 29) (i := (x * 6) + k) rfl rfl hA.2.2.2.2.2.2.2.2.2.2.2.2.2.2 (by omega) ⟨by omega, by omega⟩ hz ?_
        refine sL (i := .goto 4) rfl rfl ?_
        refine sEn (i := .ireturn) rfl (rfl) ?_
        exact ⟨rfl, rfl⟩
theorem c_append {v : Nat} (hv : v < 10) : sM X 0 26 [.ref 52, .int (iI (v : Nat))] S (sV none (wI (wI S 53 v (v : Nat)) 54 v (v : Nat))) := by
  refine sIni (ls := [some (.ref 52), some (.int (iI ((v : Nat) : Int)))]) rfl ?_
  refine sL (pc' := 1) (i := .iload_n 1) rfl rfl ?_
  refine sIf_lt (p := 4) rfl rfl ⟨by omega, by omega⟩ (fun c1 => ?_) (fun c1 => ?_)
  · exfalso; omega
  · have c1 := c1
    refine sL (pc' := 5) (i := .iload_n 1) rfl rfl ?_
    refine sKb (p := 7) rfl rfl ?_
    refine sIc_lt (p := 10) rfl rfl ⟨by omega, by omega⟩ ⟨by omega, by omega⟩ (fun c2 => ?_) (fun c2 => ?_)
    · have c2 := c2
      refine sL (pc' := 12) (i := .aload_n 0) rfl rfl ?_
      refine sGc (p := 15) rfl rfl (sk_52 _) rfl rfl rfl ?_
      refine sL (pc' := 16) (i := .iload_n 1) rfl rfl ?_
      refine sL (pc' := 17) (i := .iload_n 1) rfl rfl ?_
      refine sWi (p := 18) (i := v) rfl rfl (sk_53 _) (by omega) ⟨by omega, by omega⟩ ?_
      refine sL (pc' := 19) (i := .aload_n 0) rfl rfl ?_
      refine sGc (p := 22) rfl rfl (sk_52 _) rfl rfl rfl ?_
      refine sL (pc' := 23) (i := .iload_n 1) rfl rfl ?_
      refine sL (pc' := 24) (i := .iload_n 1) rfl rfl ?_
      refine sWi (p := 25) (i := v) rfl rfl (sk_54 _) (by omega) ⟨by omega, by omega⟩ ?_
      refine sEn (i := .return_) rfl (rfl) ?_
      exact ⟨rfl, rfl⟩
    · exfalso; omega
theorem c_chainOf {a N v s o : Nat} {f : Nat → Int} (hka : kd S a = some (.inl (0, N))) (hN : o + s ≤ N ∧ N < 1000000) (hv : v < 10) (hf : ∀ i, i < s → SI S a (o + i) = f i) : sM X 0 34 [.int (iI (v : Nat)), .int (iI (s : Nat)), .ref a, .int (iI (o : Nat))] S (sV (some (.int (iI ((v * 64 + hcI (hsI f s) : Nat) : Int)))) S) := by
  refine sIni (ls := [some (.int (iI ((v : Nat) : Int))), some (.int (iI ((s : Nat) : Int))), some (.ref a), some (.int (iI ((o : Nat) : Int))), none, none]) rfl ?_
  refine sKi (p := 1) rfl rfl ?_
  refine sL (pc' := 3) (i := .istore 4) (ls' := [some (.int (iI ((v : Nat) : Int))), some (.int (iI ((s : Nat) : Int))), some (.ref a), some (.int (iI ((o : Nat) : Int))), some (.int (iI 0)), none]) rfl rfl ?_
  refine sKi (p := 4) rfl rfl ?_
  refine sL (pc' := 6) (i := .istore 5) (ls' := [some (.int (iI ((v : Nat) : Int))), some (.int (iI ((s : Nat) : Int))), some (.ref a), some (.int (iI ((o : Nat) : Int))), some (.int (iI 0)), some (.int (iI 0))]) rfl rfl ?_
  refine sIt (A := fun i => [some (.int (iI ((v : Nat) : Int))), some (.int (iI ((s : Nat) : Int))), some (.ref a), some (.int (iI ((o : Nat) : Int))), some (.int (iI (hsI f i))), some (.int (iI ((i : Nat) : Int)))]) (B := fun _ => S) (fun _ => True) s True.intro (fun i hi6 hI6 ih6 => ?_) (fun hI6 => ?_)
  · have hi6 := hi6
    refine sL (pc' := 8) (i := .iload 5) rfl rfl ?_
    refine sL (pc' := 9) (i := .iload_n 1) rfl rfl ?_
    refine sIc_ge (p := 12) rfl rfl ⟨by omega, by omega⟩ ⟨by omega, by omega⟩ (fun c1 => ?_) (fun c1 => ?_)
    · exfalso; omega
    · have c1 := c1
      refine sL (pc' := 14) (i := .iload 4) rfl rfl ?_
      refine sKb (p := 16) rfl rfl ?_
      refine sMu (p := 17) rfl rfl ?_
      refine sL (pc' := 18) (i := .aload_n 2) rfl rfl ?_
      refine sL (pc' := 19) (i := .iload_n 3) rfl rfl ?_
      refine sL (pc' := 21) (i := .iload 5) rfl rfl ?_
      refine sAd (p := 22) rfl rfl ?_
      refine sAi (p := 23) (i := o + i) rfl rfl hka (by omega) ⟨by omega, by omega⟩ (hf i (by omega)) ?_
      refine sAd (p := 24) rfl rfl ?_
      refine sL (pc' := 26) (i := .istore 4) (ls' := [some (.int (iI ((v : Nat) : Int))), some (.int (iI ((s : Nat) : Int))), some (.ref a), some (.int (iI ((o : Nat) : Int))), some (.int (iI (((hsI f i) * 31) + (f i)))), some (.int (iI ((i : Nat) : Int)))]) rfl rfl ?_
      refine sInX (z := ((i : Nat) : Int)) (ls' := [some (.int (iI ((v : Nat) : Int))), some (.int (iI ((s : Nat) : Int))), some (.ref a), some (.int (iI ((o : Nat) : Int))), some (.int (iI (((hsI f i) * 31) + (f i)))), some (.int (iI (((i : Nat) : Int) + 1)))]) (p := 29) rfl rfl (Nat.le_of_ble_eq_true rfl) rfl rfl ?_
      refine sL (i := .goto (-23)) rfl rfl ?_
      refine sRo (ls := [some (.int (iI ((v : Nat) : Int))), some (.int (iI ((s : Nat) : Int))), some (.ref a), some (.int (iI ((o : Nat) : Int))), some (.int (iI (hsI f (i + 1)))), some (.int (iI ((i + 1 : Nat) : Int)))]) (T := _) (And.intro rfl (And.intro rfl (And.intro rfl (And.intro rfl (And.intro rfl (And.intro rfl (True.intro))))))) (rfl) (ih6 ?_)
      exact True.intro
  · have hI6 := hI6
    refine sL (pc' := 8) (i := .iload 5) rfl rfl ?_
    refine sL (pc' := 9) (i := .iload_n 1) rfl rfl ?_
    refine sIc_ge (p := 12) rfl rfl ⟨by omega, by omega⟩ ⟨by omega, by omega⟩ (fun c2 => ?_) (fun c2 => ?_)
    · have c2 := c2
      refine sL (pc' := 33) (i := .iload_n 0) rfl rfl ?_
      refine sKb (p := 35) rfl rfl ?_
      refine sMu (p := 36) rfl rfl ?_
      refine sL (pc' := 38) (i := .iload 4) rfl rfl ?_
      refine sL (pc' := 40) (i := .iload 4) rfl rfl ?_
      refine sKb (p := 42) rfl rfl ?_
      refine sL (pc' := 43) (i := .iushr) rfl rfl ?_
      refine sL (pc' := 44) (i := .ixor) (st' := [.int (iI (hx (hsI f s))), .int (iI (((v : Nat) : Int) * 64))]) rfl (by rw [← hx_eq]; rfl) ?_
      refine sKb (p := 46) rfl rfl ?_
      refine sAn 6 (p := 47) (z := ((hcI (hsI f s) : Nat) : Int)) rfl rfl rfl (by decide) (hc_eq _) ?_
      refine sAd (p := 48) rfl rfl ?_
      refine sEn (i := .ireturn) rfl (rfl) ?_
      exact sV_i (by omega) rfl
    · exfalso; omega
theorem c_leadsTo {x o s : Nat} {g w : Nat → Nat} (hA : dA S b R) (hx : x < R) (hs : s ≤ 6) (ho : o + s ≤ 60) (hg : ∀ i, i < s → SI S (b + 5) (x * 6 + i) = ((g i : Nat) : Int)) (hw : ∀ i, i < s → SI S 56 (o + i) = ((w i : Nat) : Int)) (hgb : ∀ i, i < s → g i < 1000000) (hwb : ∀ i, i < s → w i < 1000000) : sM X 0 35 [.ref 52, .int (iI (x : Nat)), .int (iI (o : Nat)), .int (iI (s : Nat))] S (sV (some (.int (iI (bI (allB (fun k => decide (g k = w k)) s))))) S) := by
  have hb58 := hA.1
  have hR1 := hA.2.1
  have hR2 := hA.2.2.1
  refine sIni (ls := [some (.ref 52), some (.int (iI ((x : Nat) : Int))), some (.int (iI ((o : Nat) : Int))), some (.int (iI ((s : Nat) : Int))), none]) rfl ?_
  refine sKi (p := 1) rfl rfl ?_
  refine sL (pc' := 3) (i := .istore 4) (ls' := [some (.ref 52), some (.int (iI ((x : Nat) : Int))), some (.int (iI ((o : Nat) : Int))), some (.int (iI ((s : Nat) : Int))), some (.int (iI 0))]) rfl rfl ?_
  refine sIt (A := fun i => [some (.ref 52), some (.int (iI ((x : Nat) : Int))), some (.int (iI ((o : Nat) : Int))), some (.int (iI ((s : Nat) : Int))), some (.int (iI ((i : Nat) : Int)))]) (B := fun _ => S) (fun i => allB (fun k => decide (g k = w k)) i = true) s rfl (fun i hi3 hI3 ih3 => ?_) (fun hI3 => ?_)
  · have hi3 := hi3
    have hgi := hgb i hi3
    have hwi := hwb i hi3
    refine sL (pc' := 5) (i := .iload 4) rfl rfl ?_
    refine sL (pc' := 6) (i := .iload_n 3) rfl rfl ?_
    refine sIc_ge (p := 9) rfl rfl ⟨by omega, by omega⟩ ⟨by omega, by omega⟩ (fun c1 => ?_) (fun c1 => ?_)
    · exfalso; omega
    · have c1 := c1
      refine sL (pc' := 10) (i := .aload_n 0) rfl rfl ?_
      refine sGr (p := 13) rfl rfl (sk_52 _) rfl rfl rfl hA.2.2.2.2.2.2.2.2.1 ?_
      refine sL (pc' := 14) (i := .iload_n 1) rfl rfl ?_
      refine sKb (p := 16) rfl rfl ?_
      refine sMu (p := 17) rfl rfl ?_
      refine sL (pc' := 19) (i := .iload 4) rfl rfl ?_
      refine sAd (p := 20) rfl rfl ?_
      refine sAi (p := 21) (i := (x * 6) + i) rfl rfl hA.2.2.2.2.2.2.2.2.2.2.2.2.2.2 (by omega) ⟨by omega, by omega⟩ (hg i (by omega)) ?_
      refine sL (pc' := 22) (i := .aload_n 0) rfl rfl ?_
      refine sGc (p := 25) rfl rfl (sk_52 _) rfl rfl rfl ?_
      refine sL (pc' := 26) (i := .iload_n 2) rfl rfl ?_
      refine sL (pc' := 28) (i := .iload 4) rfl rfl ?_
      refine sAd (p := 29) rfl rfl ?_
      refine sAi (p := 30) (i := o + i) rfl rfl (sk_56 _) (by omega) ⟨by omega, by omega⟩ (hw i (by omega)) ?_
      refine sIc_eq (p := 33) rfl rfl ⟨by omega, by omega⟩ ⟨by omega, by omega⟩ (fun c2 => ?_) (fun c2 => ?_)
      · have c2 := c2
        refine sInX (z := ((i : Nat) : Int)) (ls' := [some (.ref 52), some (.int (iI ((x : Nat) : Int))), some (.int (iI ((o : Nat) : Int))), some (.int (iI ((s : Nat) : Int))), some (.int (iI (((i : Nat) : Int) + 1)))]) (p := 38) rfl rfl (Nat.le_of_ble_eq_true rfl) rfl rfl ?_
        refine sL (i := .goto (-35)) rfl rfl ?_
        refine sRo (ls := [some (.ref 52), some (.int (iI ((x : Nat) : Int))), some (.int (iI ((o : Nat) : Int))), some (.int (iI ((s : Nat) : Int))), some (.int (iI ((i + 1 : Nat) : Int)))]) (T := _) (And.intro rfl (And.intro rfl (And.intro rfl (And.intro rfl (And.intro rfl (True.intro)))))) (rfl) (ih3 ?_)
        show (allB (fun k => decide (g k = w k)) i && decide (g i = w i)) = true
        rw [hI3, decide_eq_true (by omega)]
        rfl
      · have c2 := c2
        refine sKi (p := 34) rfl rfl ?_
        refine sEn (i := .ireturn) rfl (rfl) ?_
        have hh : allB (fun k => decide (g k = w k)) s = false := by
          cases e : allB (fun k => decide (g k = w k)) s with
          | false => rfl
          | true => exact absurd (of_decide_eq_true (allB_iff.mp e i (by omega))) (by omega)
        exact ⟨by rw [hh]; rfl, rfl⟩
  · have hI3 := hI3
    refine sL (pc' := 5) (i := .iload 4) rfl rfl ?_
    refine sL (pc' := 6) (i := .iload_n 3) rfl rfl ?_
    refine sIc_ge (p := 9) rfl rfl ⟨by omega, by omega⟩ ⟨by omega, by omega⟩ (fun c3 => ?_) (fun c3 => ?_)
    · have c3 := c3
      refine sKi (p := 42) rfl rfl ?_
      refine sEn (i := .ireturn) rfl (rfl) ?_
      exact ⟨by rw [hI3]; rfl, rfl⟩
    · exfalso; omega
theorem c_newNode_f {y o s L : Nat} {w : Nat → Nat} (hA : dA S b R) (hy : y < R) (hs : s ≤ 6) (ho : o + s ≤ 60) (hw : ∀ i, i < s → SI S 56 (o + i) = ((w i : Nat) : Int)) (hwb : ∀ i, i < s → w i < R) (hL : SI S 52 12 = (L : Nat)) (hfz : SI S 52 14 = (y : Nat)) (hy0 : 2 ≤ y) {y2 : Nat} (hy2 : SI S (b + 2) y = (y2 : Nat)) : sM X 0 36 [.ref 52, .int (iI (o : Nat)), .int (iI (s : Nat))] S (sV (some (.int (iI (y : Nat)))) (wI (wI (nK (wI S 52 14 ((y2 : Nat) : Int)) b y w s) (b + 1) y 0) 52 12 ((L + 1 : Nat) : Int))) := by
  have hb58 := hA.1
  have hR1 := hA.2.1
  have hR2 := hA.2.2.1
  refine sIni (ls := [some (.ref 52), some (.int (iI ((o : Nat) : Int))), some (.int (iI ((s : Nat) : Int))), none, none]) rfl ?_
  refine sL (pc' := 1) (i := .aload_n 0) rfl rfl ?_
  refine sGi (p := 4) rfl rfl (sk_52 _) rfl rfl rfl hfz ?_
  refine sL (pc' := 5) (i := .istore_n 3) (ls' := [some (.ref 52), some (.int (iI ((o : Nat) : Int))), some (.int (iI ((s : Nat) : Int))), some (.int (iI ((y : Nat) : Int))), none]) rfl rfl ?_
  refine sL (pc' := 6) (i := .iload_n 3) rfl rfl ?_
  refine sIf_eq (p := 9) rfl rfl ⟨by omega, by omega⟩ (fun c1 => ?_) (fun c1 => ?_)
  · exfalso; omega
  · have c1 := c1
    refine sL (pc' := 10) (i := .aload_n 0) rfl rfl ?_
    refine sL (pc' := 11) (i := .aload_n 0) rfl rfl ?_
    refine sGr (p := 14) rfl rfl (sk_52 _) rfl rfl rfl hA.2.2.2.2.2.1 ?_
    refine sL (pc' := 15) (i := .iload_n 3) rfl rfl ?_
    refine sAi (p := 16) (i := y) rfl rfl hA.2.2.2.2.2.2.2.2.2.2.2.1 (by omega) ⟨by omega, by omega⟩ hy2 ?_
    refine sPi (z := ((y2 : Nat) : Int)) (p := 19) rfl rfl (sk_52 _) rfl rfl rfl rfl ?_
    refine sL (i := .goto 18) rfl rfl ?_
    refine sKi (p := 38) rfl rfl ?_
    refine sL (pc' := 40) (i := .istore 4) (ls' := [some (.ref 52), some (.int (iI ((o : Nat) : Int))), some (.int (iI ((s : Nat) : Int))), some (.int (iI ((y : Nat) : Int))), some (.int (iI 0))]) rfl rfl ?_
    refine sSh (T := nK (wI S 52 14 ((y2 : Nat) : Int)) b y w 0) (congrArg sH (nK_0 _ _ _ _).symm) ?_
    refine sIt (A := fun i => [some (.ref 52), some (.int (iI ((o : Nat) : Int))), some (.int (iI ((s : Nat) : Int))), some (.int (iI ((y : Nat) : Int))), some (.int (iI ((i : Nat) : Int)))]) (B := fun i => nK (wI S 52 14 ((y2 : Nat) : Int)) b y w i) (fun _ => True) s True.intro (fun i hi40 hI40 ih40 => ?_) (fun hI40 => ?_)
    · have hi40 := hi40
      have hwi := hwb i hi40
      refine sL (pc' := 42) (i := .iload 4) rfl rfl ?_
      refine sL (pc' := 43) (i := .iload_n 2) rfl rfl ?_
      refine sIc_ge (p := 46) rfl rfl ⟨by omega, by omega⟩ ⟨by omega, by omega⟩ (fun c2 => ?_) (fun c2 => ?_)
      · exfalso; omega
      · have c2 := c2
        refine sL (pc' := 47) (i := .aload_n 0) rfl rfl ?_
        refine sGr (p := 50) rfl rfl (sk_52 _) rfl rfl rfl hA.2.2.2.2.2.2.2.2.1 ?_
        refine sL (pc' := 51) (i := .iload_n 3) rfl rfl ?_
        refine sKb (p := 53) rfl rfl ?_
        refine sMu (p := 54) rfl rfl ?_
        refine sL (pc' := 56) (i := .iload 4) rfl rfl ?_
        refine sAd (p := 57) rfl rfl ?_
        refine sL (pc' := 58) (i := .aload_n 0) rfl rfl ?_
        refine sGc (p := 61) rfl rfl (sk_52 _) rfl rfl rfl ?_
        refine sL (pc' := 62) (i := .iload_n 1) rfl rfl ?_
        refine sL (pc' := 64) (i := .iload 4) rfl rfl ?_
        refine sAd (p := 65) rfl rfl ?_
        refine sAi (p := 66) (i := o + i) rfl rfl (sk_56 _) (by omega) ⟨by omega, by omega⟩ ((nK_ne (by omega) (by omega) _).trans ((rI_ne (by decide) _).trans (hw i (by omega)))) ?_
        refine sWi (p := 67) (i := (y * 6) + i) rfl rfl hA.2.2.2.2.2.2.2.2.2.2.2.2.2.2 (by omega) ⟨by omega, by omega⟩ ?_
        refine sL (pc' := 68) (i := .aload_n 0) rfl rfl ?_
        refine sGr (p := 71) rfl rfl (sk_52 _) rfl rfl rfl hA.2.2.2.2.1 ?_
        refine sL (pc' := 72) (i := .aload_n 0) rfl rfl ?_
        refine sGc (p := 75) rfl rfl (sk_52 _) rfl rfl rfl ?_
        refine sL (pc' := 76) (i := .iload_n 1) rfl rfl ?_
        refine sL (pc' := 78) (i := .iload 4) rfl rfl ?_
        refine sAd (p := 79) rfl rfl ?_
        refine sAi (p := 80) (i := o + i) rfl rfl (sk_56 _) (by omega) ⟨by omega, by omega⟩ ((rI_ne (by omega) _).trans ((nK_ne (by omega) (by omega) _).trans ((rI_ne (by decide) _).trans (hw i (by omega))))) ?_
        refine sL (pc' := 81) (i := .dup2) rfl rfl ?_
        refine sAi (p := 82) (i := w i) rfl rfl hA.2.2.2.2.2.2.2.2.2.2.1 (by omega) ⟨by omega, by omega⟩ (rI_ne (by omega) _) ?_
        refine sKi (p := 83) rfl rfl ?_
        refine sAd (p := 84) rfl rfl ?_
        refine sWi (p := 85) (i := w i) rfl rfl hA.2.2.2.2.2.2.2.2.2.2.1 (by omega) ⟨by omega, by omega⟩ ?_
        refine sInX (z := ((i : Nat) : Int)) (ls' := [some (.ref 52), some (.int (iI ((o : Nat) : Int))), some (.int (iI ((s : Nat) : Int))), some (.int (iI ((y : Nat) : Int))), some (.int (iI (((i : Nat) : Int) + 1)))]) (p := 88) rfl rfl (Nat.le_of_ble_eq_true rfl) rfl rfl ?_
        refine sL (i := .goto (-48)) rfl rfl ?_
        refine sRo (ls := [some (.ref 52), some (.int (iI ((o : Nat) : Int))), some (.int (iI ((s : Nat) : Int))), some (.int (iI ((y : Nat) : Int))), some (.int (iI ((i + 1 : Nat) : Int)))]) (T := nK (wI S 52 14 ((y2 : Nat) : Int)) b y w (i + 1)) (And.intro rfl (And.intro rfl (And.intro rfl (And.intro rfl (And.intro rfl (True.intro)))))) (congrArg sH nK_s) (ih40 ?_)
        exact True.intro
    · have hI40 := hI40
      refine sL (pc' := 42) (i := .iload 4) rfl rfl ?_
      refine sL (pc' := 43) (i := .iload_n 2) rfl rfl ?_
      refine sIc_ge (p := 46) rfl rfl ⟨by omega, by omega⟩ ⟨by omega, by omega⟩ (fun c3 => ?_) (fun c3 => ?_)
      · have c3 := c3
        refine sL (pc' := 92) (i := .aload_n 0) rfl rfl ?_
        refine sGr (p := 95) rfl rfl (sk_52 _) rfl rfl rfl hA.2.2.2.2.1 ?_
        refine sL (pc' := 96) (i := .iload_n 3) rfl rfl ?_
        refine sKi (p := 97) rfl rfl ?_
        refine sWi (p := 98) (i := y) rfl rfl hA.2.2.2.2.2.2.2.2.2.2.1 (by omega) ⟨by omega, by omega⟩ ?_
        refine sL (pc' := 99) (i := .aload_n 0) rfl rfl ?_
        refine sL (pc' := 100) (i := .dup) rfl rfl ?_
        refine sGi (p := 103) rfl rfl (sk_52 _) rfl rfl rfl ((congrFun (u2_ne (show 52 ≠ b + 1 by omega)) _).trans ((nK_ne (by omega) (by omega) _).trans ((rI_nj (by decide)).trans hL))) ?_
        refine sKi (p := 104) rfl rfl ?_
        refine sAd (p := 105) rfl rfl ?_
        refine sPi (z := (((L : Nat) : Int) + 1)) (p := 108) rfl rfl (sk_52 _) rfl rfl rfl rfl ?_
        refine sL (pc' := 109) (i := .iload_n 3) rfl rfl ?_
        refine sEn (i := .ireturn) rfl (rfl) ?_
        exact ⟨rfl, rfl⟩
      · exfalso; omega
theorem c_newNode_u {y o s L : Nat} {w : Nat → Nat} (hA : dA S b R) (hy : y < R) (hs : s ≤ 6) (ho : o + s ≤ 60) (hw : ∀ i, i < s → SI S 56 (o + i) = ((w i : Nat) : Int)) (hwb : ∀ i, i < s → w i < R) (hL : SI S 52 12 = (L : Nat)) (hfz : SI S 52 14 = 0) (hy0 : 2 ≤ y) (hU : SI S 52 13 = (y : Nat)) : sM X 0 36 [.ref 52, .int (iI (o : Nat)), .int (iI (s : Nat))] S (sV (some (.int (iI (y : Nat)))) (wI (wI (nK (wI S 52 13 ((y + 1 : Nat) : Int)) b y w s) (b + 1) y 0) 52 12 ((L + 1 : Nat) : Int))) := by
  have hb58 := hA.1
  have hR1 := hA.2.1
  have hR2 := hA.2.2.1
  refine sIni (ls := [some (.ref 52), some (.int (iI ((o : Nat) : Int))), some (.int (iI ((s : Nat) : Int))), none, none]) rfl ?_
  refine sL (pc' := 1) (i := .aload_n 0) rfl rfl ?_
  refine sGi (p := 4) rfl rfl (sk_52 _) rfl rfl rfl hfz ?_
  refine sL (pc' := 5) (i := .istore_n 3) (ls' := [some (.ref 52), some (.int (iI ((o : Nat) : Int))), some (.int (iI ((s : Nat) : Int))), some (.int (iI 0)), none]) rfl rfl ?_
  refine sL (pc' := 6) (i := .iload_n 3) rfl rfl ?_
  refine sIf_eq (p := 9) rfl rfl ⟨by omega, by omega⟩ (fun c1 => ?_) (fun c1 => ?_)
  · have c1 := c1
    refine sL (pc' := 23) (i := .aload_n 0) rfl rfl ?_
    refine sGi (p := 26) rfl rfl (sk_52 _) rfl rfl rfl hU ?_
    refine sL (pc' := 27) (i := .istore_n 3) (ls' := [some (.ref 52), some (.int (iI ((o : Nat) : Int))), some (.int (iI ((s : Nat) : Int))), some (.int (iI ((y : Nat) : Int))), none]) rfl rfl ?_
    refine sL (pc' := 28) (i := .aload_n 0) rfl rfl ?_
    refine sL (pc' := 29) (i := .dup) rfl rfl ?_
    refine sGi (p := 32) rfl rfl (sk_52 _) rfl rfl rfl hU ?_
    refine sKi (p := 33) rfl rfl ?_
    refine sAd (p := 34) rfl rfl ?_
    refine sPi (z := (((y : Nat) : Int) + 1)) (p := 37) rfl rfl (sk_52 _) rfl rfl rfl rfl ?_
    refine sKi (p := 38) rfl rfl ?_
    refine sL (pc' := 40) (i := .istore 4) (ls' := [some (.ref 52), some (.int (iI ((o : Nat) : Int))), some (.int (iI ((s : Nat) : Int))), some (.int (iI ((y : Nat) : Int))), some (.int (iI 0))]) rfl rfl ?_
    refine sSh (T := nK (wI S 52 13 ((y + 1 : Nat) : Int)) b y w 0) (congrArg sH (nK_0 _ _ _ _).symm) ?_
    refine sIt (A := fun i => [some (.ref 52), some (.int (iI ((o : Nat) : Int))), some (.int (iI ((s : Nat) : Int))), some (.int (iI ((y : Nat) : Int))), some (.int (iI ((i : Nat) : Int)))]) (B := fun i => nK (wI S 52 13 ((y + 1 : Nat) : Int)) b y w i) (fun _ => True) s True.intro (fun i hi40 hI40 ih40 => ?_) (fun hI40 => ?_)
    · have hi40 := hi40
      have hwi := hwb i hi40
      refine sL (pc' := 42) (i := .iload 4) rfl rfl ?_
      refine sL (pc' := 43) (i := .iload_n 2) rfl rfl ?_
      refine sIc_ge (p := 46) rfl rfl ⟨by omega, by omega⟩ ⟨by omega, by omega⟩ (fun c2 => ?_) (fun c2 => ?_)
      · exfalso; omega
      · have c2 := c2
        refine sL (pc' := 47) (i := .aload_n 0) rfl rfl ?_
        refine sGr (p := 50) rfl rfl (sk_52 _) rfl rfl rfl hA.2.2.2.2.2.2.2.2.1 ?_
        refine sL (pc' := 51) (i := .iload_n 3) rfl rfl ?_
        refine sKb (p := 53) rfl rfl ?_
        refine sMu (p := 54) rfl rfl ?_
        refine sL (pc' := 56) (i := .iload 4) rfl rfl ?_
        refine sAd (p := 57) rfl rfl ?_
        refine sL (pc' := 58) (i := .aload_n 0) rfl rfl ?_
        refine sGc (p := 61) rfl rfl (sk_52 _) rfl rfl rfl ?_
        refine sL (pc' := 62) (i := .iload_n 1) rfl rfl ?_
        refine sL (pc' := 64) (i := .iload 4) rfl rfl ?_
        refine sAd (p := 65) rfl rfl ?_
        refine sAi (p := 66) (i := o + i) rfl rfl (sk_56 _) (by omega) ⟨by omega, by omega⟩ ((nK_ne (by omega) (by omega) _).trans ((rI_ne (by decide) _).trans (hw i (by omega)))) ?_
        refine sWi (p := 67) (i := (y * 6) + i) rfl rfl hA.2.2.2.2.2.2.2.2.2.2.2.2.2.2 (by omega) ⟨by omega, by omega⟩ ?_
        refine sL (pc' := 68) (i := .aload_n 0) rfl rfl ?_
        refine sGr (p := 71) rfl rfl (sk_52 _) rfl rfl rfl hA.2.2.2.2.1 ?_
        refine sL (pc' := 72) (i := .aload_n 0) rfl rfl ?_
        refine sGc (p := 75) rfl rfl (sk_52 _) rfl rfl rfl ?_
        refine sL (pc' := 76) (i := .iload_n 1) rfl rfl ?_
        refine sL (pc' := 78) (i := .iload 4) rfl rfl ?_
        refine sAd (p := 79) rfl rfl ?_
        refine sAi (p := 80) (i := o + i) rfl rfl (sk_56 _) (by omega) ⟨by omega, by omega⟩ ((rI_ne (by omega) _).trans ((nK_ne (by omega) (by omega) _).trans ((rI_ne (by decide) _).trans (hw i (by omega))))) ?_
        refine sL (pc' := 81) (i := .dup2) rfl rfl ?_
        refine sAi (p := 82) (i := w i) rfl rfl hA.2.2.2.2.2.2.2.2.2.2.1 (by omega) ⟨by omega, by omega⟩ (rI_ne (by omega) _) ?_
        refine sKi (p := 83) rfl rfl ?_
        refine sAd (p := 84) rfl rfl ?_
        refine sWi (p := 85) (i := w i) rfl rfl hA.2.2.2.2.2.2.2.2.2.2.1 (by omega) ⟨by omega, by omega⟩ ?_
        refine sInX (z := ((i : Nat) : Int)) (ls' := [some (.ref 52), some (.int (iI ((o : Nat) : Int))), some (.int (iI ((s : Nat) : Int))), some (.int (iI ((y : Nat) : Int))), some (.int (iI (((i : Nat) : Int) + 1)))]) (p := 88) rfl rfl (Nat.le_of_ble_eq_true rfl) rfl rfl ?_
        refine sL (i := .goto (-48)) rfl rfl ?_
        refine sRo (ls := [some (.ref 52), some (.int (iI ((o : Nat) : Int))), some (.int (iI ((s : Nat) : Int))), some (.int (iI ((y : Nat) : Int))), some (.int (iI ((i + 1 : Nat) : Int)))]) (T := nK (wI S 52 13 ((y + 1 : Nat) : Int)) b y w (i + 1)) (And.intro rfl (And.intro rfl (And.intro rfl (And.intro rfl (And.intro rfl (True.intro)))))) (congrArg sH nK_s) (ih40 ?_)
        exact True.intro
    · have hI40 := hI40
      refine sL (pc' := 42) (i := .iload 4) rfl rfl ?_
      refine sL (pc' := 43) (i := .iload_n 2) rfl rfl ?_
      refine sIc_ge (p := 46) rfl rfl ⟨by omega, by omega⟩ ⟨by omega, by omega⟩ (fun c3 => ?_) (fun c3 => ?_)
      · have c3 := c3
        refine sL (pc' := 92) (i := .aload_n 0) rfl rfl ?_
        refine sGr (p := 95) rfl rfl (sk_52 _) rfl rfl rfl hA.2.2.2.2.1 ?_
        refine sL (pc' := 96) (i := .iload_n 3) rfl rfl ?_
        refine sKi (p := 97) rfl rfl ?_
        refine sWi (p := 98) (i := y) rfl rfl hA.2.2.2.2.2.2.2.2.2.2.1 (by omega) ⟨by omega, by omega⟩ ?_
        refine sL (pc' := 99) (i := .aload_n 0) rfl rfl ?_
        refine sL (pc' := 100) (i := .dup) rfl rfl ?_
        refine sGi (p := 103) rfl rfl (sk_52 _) rfl rfl rfl ((congrFun (u2_ne (show 52 ≠ b + 1 by omega)) _).trans ((nK_ne (by omega) (by omega) _).trans ((rI_nj (by decide)).trans hL))) ?_
        refine sKi (p := 104) rfl rfl ?_
        refine sAd (p := 105) rfl rfl ?_
        refine sPi (z := (((L : Nat) : Int) + 1)) (p := 108) rfl rfl (sk_52 _) rfl rfl rfl rfl ?_
        refine sL (pc' := 109) (i := .iload_n 3) rfl rfl ?_
        refine sEn (i := .ireturn) rfl (rfl) ?_
        exact ⟨rfl, rfl⟩
      · exfalso; omega
  · exact absurd c1 (by decide)
theorem c_link {y v c : Nat} {h : Int} (hA : dA S b R) (hy : y < R) (hc : c < 640) (hh : SI S 55 c = h) : sM X 0 37 [.ref 52, .int (iI (y : Nat)), .int (iI (v : Nat)), .int (iI (c : Nat))] S (sV none (wI (wI (wI S b y (v : Nat)) (b + 2) y h) 55 c (y : Nat))) := by
  have hb58 := hA.1
  have hR1 := hA.2.1
  have hR2 := hA.2.2.1
  refine sIni (ls := [some (.ref 52), some (.int (iI ((y : Nat) : Int))), some (.int (iI ((v : Nat) : Int))), some (.int (iI ((c : Nat) : Int)))]) rfl ?_
  refine sL (pc' := 1) (i := .aload_n 0) rfl rfl ?_
  refine sGr (p := 4) rfl rfl (sk_52 _) rfl rfl rfl hA.2.2.2.1 ?_
  refine sL (pc' := 5) (i := .iload_n 1) rfl rfl ?_
  refine sL (pc' := 6) (i := .iload_n 2) rfl rfl ?_
  refine sWi (p := 7) (i := y) rfl rfl hA.2.2.2.2.2.2.2.2.2.1 (by omega) ⟨by omega, by omega⟩ ?_
  refine sL (pc' := 8) (i := .aload_n 0) rfl rfl ?_
  refine sGr (p := 11) rfl rfl (sk_52 _) rfl rfl rfl hA.2.2.2.2.2.1 ?_
  refine sL (pc' := 12) (i := .iload_n 1) rfl rfl ?_
  refine sL (pc' := 13) (i := .aload_n 0) rfl rfl ?_
  refine sGc (p := 16) rfl rfl (sk_52 _) rfl rfl rfl ?_
  refine sL (pc' := 17) (i := .iload_n 3) rfl rfl ?_
  refine sAi (p := 18) (i := c) rfl rfl (sk_55 _) (by omega) ⟨by omega, by omega⟩ ((rI_ne (by omega) _).trans hh) ?_
  refine sWi (p := 19) (i := y) rfl rfl hA.2.2.2.2.2.2.2.2.2.2.2.1 (by omega) ⟨by omega, by omega⟩ ?_
  refine sL (pc' := 20) (i := .aload_n 0) rfl rfl ?_
  refine sGc (p := 23) rfl rfl (sk_52 _) rfl rfl rfl ?_
  refine sL (pc' := 24) (i := .iload_n 3) rfl rfl ?_
  refine sL (pc' := 25) (i := .iload_n 1) rfl rfl ?_
  refine sWi (p := 26) (i := c) rfl rfl (sk_55 _) (by omega) ⟨by omega, by omega⟩ ?_
  refine sEn (i := .return_) rfl (rfl) ?_
  exact ⟨rfl, rfl⟩
/-- a node is taken out of its chain -/
def ulk (S : ST) (b c : Nat) (q : CQ) (j : Nat) : ST := if j = 0 then wI S 55 c ((q.2 1 : Nat) : Int) else wI S (b + 2) (q.2 (j - 1)) ((q.2 (j + 1) : Nat) : Int)
theorem c_unlink_0 {x v s : Nat} {f : Nat → Int} {q : CQ} (hA : dA S b R) (hs : s ≤ 6) (hv : v < 10) (hf : ∀ i, i < s → SI S (b + 5) (x * 6 + i) = f i) (hlk : lk (SI S (b + 2)) (SI S 55 (v * 64 + hcI (hsI f s))) q) (hqb : ∀ i, i < q.1 → 2 ≤ q.2 i ∧ q.2 i < R) (hq1 : q.1 ≤ 131072) (hj : 0 < q.1) (hx : q.2 0 = x) : sM X 1 38 [.ref 52, .int (iI (x : Nat)), .int (iI (v : Nat)), .int (iI (s : Nat))] S (sV none (wI S 55 (v * 64 + hcI (hsI f s)) ((q.2 1 : Nat) : Int))) := by
  have hb58 := hA.1
  have hR1 := hA.2.1
  have hR2 := hA.2.2.1
  have hxb := hqb _ hj
  have hcb := hc_lt (hsI f s)
  rw [hx] at hxb
  have h1 : SI S (b + 2) x = ((q.2 1 : Nat) : Int) := by rw [← hx]; exact hlk.2.1 0 hj
  refine sIni (ls := [some (.ref 52), some (.int (iI ((x : Nat) : Int))), some (.int (iI ((v : Nat) : Int))), some (.int (iI ((s : Nat) : Int))), none, none, none]) rfl ?_
  refine sL (pc' := 1) (i := .iload_n 2) rfl rfl ?_
  refine sL (pc' := 2) (i := .iload_n 3) rfl rfl ?_
  refine sL (pc' := 3) (i := .aload_n 0) rfl rfl ?_
  refine sGr (p := 6) rfl rfl (sk_52 _) rfl rfl rfl hA.2.2.2.2.2.2.2.2.1 ?_
  refine sL (pc' := 7) (i := .iload_n 1) rfl rfl ?_
  refine sKb (p := 9) rfl rfl ?_
  refine sMu (p := 10) rfl rfl ?_
  refine sCs (p := 13) (as := [_, _, _, _]) rfl rfl rfl rfl (by decide) (Nat.le_of_ble_eq_true rfl) rfl (Nat.le_of_ble_eq_true rfl) rfl (by omega) (c_chainOf (N := 6 * R) (o := x * 6) (f := f) hA.2.2.2.2.2.2.2.2.2.2.2.2.2.2 ⟨by omega, by omega⟩ hv hf) ?_
  refine sL (pc' := 15) (i := .istore 4) (ls' := [some (.ref 52), some (.int (iI ((x : Nat) : Int))), some (.int (iI ((v : Nat) : Int))), some (.int (iI ((s : Nat) : Int))), some (.int (iI ((v * 64 + hcI (hsI f s) : Nat) : Int))), none, none]) rfl rfl ?_
  refine sL (pc' := 16) (i := .aload_n 0) rfl rfl ?_
  refine sGc (p := 19) rfl rfl (sk_52 _) rfl rfl rfl ?_
  refine sL (pc' := 21) (i := .iload 4) rfl rfl ?_
  refine sAi (p := 22) (i := v * 64 + hcI (hsI f s)) rfl rfl (sk_55 _) (by omega) ⟨by omega, by omega⟩ (hlk.1.trans (by rw [hx])) ?_
  refine sL (pc' := 24) (i := .istore 5) (ls' := [some (.ref 52), some (.int (iI ((x : Nat) : Int))), some (.int (iI ((v : Nat) : Int))), some (.int (iI ((s : Nat) : Int))), some (.int (iI ((v * 64 + hcI (hsI f s) : Nat) : Int))), some (.int (iI ((x : Nat) : Int))), none]) rfl rfl ?_
  refine sL (pc' := 26) (i := .iload 5) rfl rfl ?_
  refine sL (pc' := 27) (i := .iload_n 1) rfl rfl ?_
  refine sIc_ne (p := 30) rfl rfl ⟨by omega, by omega⟩ ⟨by omega, by omega⟩ (fun c1 => ?_) (fun c1 => ?_)
  · exfalso; omega
  · have c1 := c1
    refine sL (pc' := 31) (i := .aload_n 0) rfl rfl ?_
    refine sGc (p := 34) rfl rfl (sk_52 _) rfl rfl rfl ?_
    refine sL (pc' := 36) (i := .iload 4) rfl rfl ?_
    refine sL (pc' := 37) (i := .aload_n 0) rfl rfl ?_
    refine sGr (p := 40) rfl rfl (sk_52 _) rfl rfl rfl hA.2.2.2.2.2.1 ?_
    refine sL (pc' := 41) (i := .iload_n 1) rfl rfl ?_
    refine sAi (p := 42) (i := x) rfl rfl hA.2.2.2.2.2.2.2.2.2.2.2.1 (by omega) ⟨by omega, by omega⟩ h1 ?_
    refine sWi (p := 43) (i := v * 64 + hcI (hsI f s)) rfl rfl (sk_55 _) (by omega) ⟨by omega, by omega⟩ ?_
    refine sEn (i := .return_) rfl (rfl) ?_
    exact ⟨rfl, rfl⟩
theorem c_unlink_s {x v s j : Nat} {f : Nat → Int} {q : CQ} (hA : dA S b R) (hs : s ≤ 6) (hv : v < 10) (hf : ∀ i, i < s → SI S (b + 5) (x * 6 + i) = f i) (hlk : lk (SI S (b + 2)) (SI S 55 (v * 64 + hcI (hsI f s))) q) (hqb : ∀ i, i < q.1 → 2 ≤ q.2 i ∧ q.2 i < R) (hq1 : q.1 ≤ 131072) (hj : j + 1 < q.1) (hx : q.2 (j + 1) = x) : sM X 1 38 [.ref 52, .int (iI (x : Nat)), .int (iI (v : Nat)), .int (iI (s : Nat))] S (sV none (wI S (b + 2) (q.2 j) ((q.2 (j + 2) : Nat) : Int))) := by
  have hb58 := hA.1
  have hR1 := hA.2.1
  have hR2 := hA.2.2.1
  have hxb := hqb _ hj
  have hcb := hc_lt (hsI f s)
  rw [hx] at hxb
  have h1 : SI S (b + 2) x = ((q.2 (j + 2) : Nat) : Int) := by rw [← hx]; exact hlk.2.1 (j + 1) hj
  have hin : ∀ i, i < q.1 → q.2 i = x → i = j + 1 := fun i hi e => hlk.2.2.2 i (j + 1) hi hj (by rw [e, hx])
  have h00 : q.2 0 ≠ x := fun e => by have := hin 0 (by omega) e; omega
  have hq0 := hqb 0 (by omega)
  have hqj := hqb j (by omega)
  refine sIni (ls := [some (.ref 52), some (.int (iI ((x : Nat) : Int))), some (.int (iI ((v : Nat) : Int))), some (.int (iI ((s : Nat) : Int))), none, none, none]) rfl ?_
  refine sL (pc' := 1) (i := .iload_n 2) rfl rfl ?_
  refine sL (pc' := 2) (i := .iload_n 3) rfl rfl ?_
  refine sL (pc' := 3) (i := .aload_n 0) rfl rfl ?_
  refine sGr (p := 6) rfl rfl (sk_52 _) rfl rfl rfl hA.2.2.2.2.2.2.2.2.1 ?_
  refine sL (pc' := 7) (i := .iload_n 1) rfl rfl ?_
  refine sKb (p := 9) rfl rfl ?_
  refine sMu (p := 10) rfl rfl ?_
  refine sCs (p := 13) (as := [_, _, _, _]) rfl rfl rfl rfl (by decide) (Nat.le_of_ble_eq_true rfl) rfl (Nat.le_of_ble_eq_true rfl) rfl (by omega) (c_chainOf (N := 6 * R) (o := x * 6) (f := f) hA.2.2.2.2.2.2.2.2.2.2.2.2.2.2 ⟨by omega, by omega⟩ hv hf) ?_
  refine sL (pc' := 15) (i := .istore 4) (ls' := [some (.ref 52), some (.int (iI ((x : Nat) : Int))), some (.int (iI ((v : Nat) : Int))), some (.int (iI ((s : Nat) : Int))), some (.int (iI ((v * 64 + hcI (hsI f s) : Nat) : Int))), none, none]) rfl rfl ?_
  refine sL (pc' := 16) (i := .aload_n 0) rfl rfl ?_
  refine sGc (p := 19) rfl rfl (sk_52 _) rfl rfl rfl ?_
  refine sL (pc' := 21) (i := .iload 4) rfl rfl ?_
  refine sAi (p := 22) (i := v * 64 + hcI (hsI f s)) rfl rfl (sk_55 _) (by omega) ⟨by omega, by omega⟩ hlk.1 ?_
  refine sL (pc' := 24) (i := .istore 5) (ls' := [some (.ref 52), some (.int (iI ((x : Nat) : Int))), some (.int (iI ((v : Nat) : Int))), some (.int (iI ((s : Nat) : Int))), some (.int (iI ((v * 64 + hcI (hsI f s) : Nat) : Int))), some (.int (iI ((q.2 0 : Nat) : Int))), none]) rfl rfl ?_
  refine sL (pc' := 26) (i := .iload 5) rfl rfl ?_
  refine sL (pc' := 27) (i := .iload_n 1) rfl rfl ?_
  refine sIc_ne (p := 30) rfl rfl ⟨by omega, by omega⟩ ⟨by omega, by omega⟩ (fun c1 => ?_) (fun c1 => ?_)
  · have c1 := c1
    refine sKi (p := 45) rfl rfl ?_
    refine sL (pc' := 47) (i := .istore 6) (ls' := [some (.ref 52), some (.int (iI ((x : Nat) : Int))), some (.int (iI ((v : Nat) : Int))), some (.int (iI ((s : Nat) : Int))), some (.int (iI ((v * 64 + hcI (hsI f s) : Nat) : Int))), some (.int (iI ((q.2 0 : Nat) : Int))), some (.int (iI 0))]) rfl rfl ?_
    refine sIt (A := fun i => [some (.ref 52), some (.int (iI ((x : Nat) : Int))), some (.int (iI ((v : Nat) : Int))), some (.int (iI ((s : Nat) : Int))), some (.int (iI ((v * 64 + hcI (hsI f s) : Nat) : Int))), some (.int (iI ((q.2 i : Nat) : Int))), some (.int (iI ((i : Nat) : Int)))]) (B := fun _ => S) (fun _ => True) j True.intro (fun i hi47 hI47 ih47 => ?_) (fun hI47 => ?_)
    · have hi47 := hi47
      have hqi := hqb i (by omega)
      have hqn := hqb (i + 1) (by omega)
      have hni : q.2 (i + 1) ≠ x := fun e => by have := hin (i + 1) (by omega) e; omega
      refine sL (pc' := 49) (i := .iload 5) rfl rfl ?_
      refine sIf_eq (p := 52) rfl rfl ⟨by omega, by omega⟩ (fun c2 => ?_) (fun c2 => ?_)
      · exfalso; omega
      · have c2 := c2
        refine sL (pc' := 54) (i := .iload 6) rfl rfl ?_
        refine sKl (p := 56) rfl rfl ?_
        refine sIc_ge (p := 59) rfl rfl ⟨by omega, by omega⟩ ⟨by omega, by omega⟩ (fun c3 => ?_) (fun c3 => ?_)
        · exfalso; omega
        · have c3 := c3
          refine sL (pc' := 60) (i := .aload_n 0) rfl rfl ?_
          refine sGr (p := 63) rfl rfl (sk_52 _) rfl rfl rfl hA.2.2.2.2.2.1 ?_
          refine sL (pc' := 65) (i := .iload 5) rfl rfl ?_
          refine sAi (p := 66) (i := q.2 i) rfl rfl hA.2.2.2.2.2.2.2.2.2.2.2.1 (by omega) ⟨by omega, by omega⟩ (hlk.2.1 i (by omega)) ?_
          refine sL (pc' := 67) (i := .iload_n 1) rfl rfl ?_
          refine sIc_ne (p := 70) rfl rfl ⟨by omega, by omega⟩ ⟨by omega, by omega⟩ (fun c4 => ?_) (fun c4 => ?_)
          · have c4 := c4
            refine sL (pc' := 85) (i := .aload_n 0) rfl rfl ?_
            refine sGr (p := 88) rfl rfl (sk_52 _) rfl rfl rfl hA.2.2.2.2.2.1 ?_
            refine sL (pc' := 90) (i := .iload 5) rfl rfl ?_
            refine sAi (p := 91) (i := q.2 i) rfl rfl hA.2.2.2.2.2.2.2.2.2.2.2.1 (by omega) ⟨by omega, by omega⟩ (hlk.2.1 i (by omega)) ?_
            refine sL (pc' := 93) (i := .istore 5) (ls' := [some (.ref 52), some (.int (iI ((x : Nat) : Int))), some (.int (iI ((v : Nat) : Int))), some (.int (iI ((s : Nat) : Int))), some (.int (iI ((v * 64 + hcI (hsI f s) : Nat) : Int))), some (.int (iI ((q.2 (i + 1) : Nat) : Int))), some (.int (iI ((i : Nat) : Int)))]) rfl rfl ?_
            refine sInX (z := ((i : Nat) : Int)) (ls' := [some (.ref 52), some (.int (iI ((x : Nat) : Int))), some (.int (iI ((v : Nat) : Int))), some (.int (iI ((s : Nat) : Int))), some (.int (iI ((v * 64 + hcI (hsI f s) : Nat) : Int))), some (.int (iI ((q.2 (i + 1) : Nat) : Int))), some (.int (iI (((i : Nat) : Int) + 1)))]) (p := 96) rfl rfl (Nat.le_of_ble_eq_true rfl) rfl rfl ?_
            refine sL (i := .goto (-49)) rfl rfl ?_
            refine sRo (ls := [some (.ref 52), some (.int (iI ((x : Nat) : Int))), some (.int (iI ((v : Nat) : Int))), some (.int (iI ((s : Nat) : Int))), some (.int (iI ((v * 64 + hcI (hsI f s) : Nat) : Int))), some (.int (iI ((q.2 (i + 1) : Nat) : Int))), some (.int (iI ((i + 1 : Nat) : Int)))]) (T := _) (And.intro rfl (And.intro rfl (And.intro rfl (And.intro rfl (And.intro rfl (And.intro rfl (And.intro rfl (True.intro)))))))) (rfl) (ih47 ?_)
            exact True.intro
          · exfalso; omega
    · have hI47 := hI47
      refine sL (pc' := 49) (i := .iload 5) rfl rfl ?_
      refine sIf_eq (p := 52) rfl rfl ⟨by omega, by omega⟩ (fun c5 => ?_) (fun c5 => ?_)
      · exfalso; omega
      · have c5 := c5
        refine sL (pc' := 54) (i := .iload 6) rfl rfl ?_
        refine sKl (p := 56) rfl rfl ?_
        refine sIc_ge (p := 59) rfl rfl ⟨by omega, by omega⟩ ⟨by omega, by omega⟩ (fun c6 => ?_) (fun c6 => ?_)
        · exfalso; omega
        · have c6 := c6
          refine sL (pc' := 60) (i := .aload_n 0) rfl rfl ?_
          refine sGr (p := 63) rfl rfl (sk_52 _) rfl rfl rfl hA.2.2.2.2.2.1 ?_
          refine sL (pc' := 65) (i := .iload 5) rfl rfl ?_
          refine sAi (p := 66) (i := q.2 j) rfl rfl hA.2.2.2.2.2.2.2.2.2.2.2.1 (by omega) ⟨by omega, by omega⟩ ((hlk.2.1 j (by omega)).trans (by rw [hx])) ?_
          refine sL (pc' := 67) (i := .iload_n 1) rfl rfl ?_
          refine sIc_ne (p := 70) rfl rfl ⟨by omega, by omega⟩ ⟨by omega, by omega⟩ (fun c7 => ?_) (fun c7 => ?_)
          · exfalso; omega
          · have c7 := c7
            refine sL (pc' := 71) (i := .aload_n 0) rfl rfl ?_
            refine sGr (p := 74) rfl rfl (sk_52 _) rfl rfl rfl hA.2.2.2.2.2.1 ?_
            refine sL (pc' := 76) (i := .iload 5) rfl rfl ?_
            refine sL (pc' := 77) (i := .aload_n 0) rfl rfl ?_
            refine sGr (p := 80) rfl rfl (sk_52 _) rfl rfl rfl hA.2.2.2.2.2.1 ?_
            refine sL (pc' := 81) (i := .iload_n 1) rfl rfl ?_
            refine sAi (p := 82) (i := x) rfl rfl hA.2.2.2.2.2.2.2.2.2.2.2.1 (by omega) ⟨by omega, by omega⟩ h1 ?_
            refine sWi (p := 83) (i := q.2 j) rfl rfl hA.2.2.2.2.2.2.2.2.2.2.2.1 (by omega) ⟨by omega, by omega⟩ ?_
            refine sEn (i := .return_) rfl (rfl) ?_
            exact ⟨rfl, rfl⟩
  · exfalso; omega
theorem c_unlink {x v s j : Nat} {f : Nat → Int} {q : CQ} (hA : dA S b R) (hs : s ≤ 6) (hv : v < 10) (hf : ∀ i, i < s → SI S (b + 5) (x * 6 + i) = f i) (hlk : lk (SI S (b + 2)) (SI S 55 (v * 64 + hcI (hsI f s))) q) (hqb : ∀ i, i < q.1 → 2 ≤ q.2 i ∧ q.2 i < R) (hq1 : q.1 ≤ 131072) (hj : j < q.1) (hx : q.2 j = x) : sM X 1 38 [.ref 52, .int (iI (x : Nat)), .int (iI (v : Nat)), .int (iI (s : Nat))] S (sV none (ulk S b (v * 64 + hcI (hsI f s)) q j)) := by
  unfold ulk
  cases j with
  | zero =>
    rw [if_pos rfl]
    exact c_unlink_0 hA hs hv hf hlk hqb hq1 hj hx
  | succ j =>
    rw [if_neg (Nat.succ_ne_zero j)]
    exact c_unlink_s hA hs hv hf hlk hqb hq1 hj hx
end DD
