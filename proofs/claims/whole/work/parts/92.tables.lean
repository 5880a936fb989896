/-! ===== tables: counted, compared, looked for ===== -/
theorem cntB_add (p : Nat → Bool) (a : Nat) : ∀ b, cntB p (a + b) = cntB p a + cntB (fun i => p (a + i)) b
  | 0 => rfl
  | b + 1 => by
    show cntB p (a + b) + (if p (a + b) then 1 else 0) = cntB p a + (cntB (fun i => p (a + i)) b + (if p (a + b) then 1 else 0))
    rw [cntB_add p a b]
    omega
theorem cntB_cg {p q : Nat → Bool} : ∀ {n : Nat}, (∀ i, i < n → p i = q i) → cntB p n = cntB q n
  | 0, _ => rfl
  | n + 1, h => by
    show cntB p n + (if p n then 1 else 0) = cntB q n + (if q n then 1 else 0)
    rw [cntB_cg (fun i hi => h i (by omega)), h n (by omega)]
theorem cntB_z {p : Nat → Bool} : ∀ {n : Nat}, cntB p n = 0 ↔ ∀ i, i < n → p i = false
  | 0 => ⟨fun _ i h => absurd h (by omega), fun _ => rfl⟩
  | n + 1 => by
    have ih := cntB_z (p := p) (n := n)
    show cntB p n + (if p n then 1 else 0) = 0 ↔ _
    constructor
    · intro h i hi
      by_cases c : i = n
      · subst c
        cases e : p i with
        | false => rfl
        | true =>
          rw [e] at h
          exact absurd h (by show ¬ (cntB p i + 1 = 0); omega)
      · exact ih.mp (by omega) i (by omega)
    · intro h
      rw [ih.mpr (fun i hi => h i (by omega)), h n (by omega)]
      rfl
theorem cntB_f2 {p : Nat → Bool} : ∀ {n : Nat}, cntB p n = n ↔ ∀ i, i < n → p i = true
  | 0 => ⟨fun _ i h => absurd h (by omega), fun _ => rfl⟩
  | n + 1 => by
    have ih := cntB_f2 (p := p) (n := n)
    have hl := cntB_le p n
    show cntB p n + (if p n then 1 else 0) = n + 1 ↔ _
    constructor
    · intro h i hi
      cases e : p n with
      | false =>
        rw [e] at h
        exact absurd h (by show ¬ (cntB p n + 0 = n + 1); omega)
      | true =>
        rw [e] at h
        have h : cntB p n + 1 = n + 1 := h
        by_cases c : i = n
        · subst c
          exact e
        · exact ih.mp (by omega) i (by omega)
    · intro h
      rw [ih.mpr (fun i hi => h i (by omega)), h n (by omega)]
      rfl
/-- the first place from i on where p holds, k places being looked at -/
def fbF (p : Nat → Bool) : Nat → Nat → Nat
  | 0, i => i
  | k + 1, i => if p i then i else fbF p k (i + 1)
theorem fbF_ok (p : Nat → Bool) : ∀ k i, (i ≤ fbF p k i ∧ fbF p k i ≤ i + k) ∧ (∀ j, i ≤ j → j < fbF p k i → p j = false) ∧ (fbF p k i < i + k → p (fbF p k i) = true)
  | 0, i => ⟨⟨Nat.le_refl _, Nat.le_refl _⟩, fun j h1 h2 => absurd h2 (by show ¬ j < i; omega), fun h => absurd h (by show ¬ i < i + 0; omega)⟩
  | k + 1, i => by
    have ih := fbF_ok p k (i + 1)
    have e : fbF p (k + 1) i = if p i then i else fbF p k (i + 1) := rfl
    cases c : p i with
    | true =>
      rw [e, c]
      exact ⟨⟨Nat.le_refl _, by show i ≤ i + (k + 1); omega⟩, fun j h1 h2 => absurd h2 (by show ¬ j < i; omega), fun _ => c⟩
    | false =>
      rw [e, c]
      show (i ≤ fbF p k (i + 1) ∧ fbF p k (i + 1) ≤ i + (k + 1)) ∧ (∀ j, i ≤ j → j < fbF p k (i + 1) → p j = false) ∧ (fbF p k (i + 1) < i + (k + 1) → p (fbF p k (i + 1)) = true)
      refine ⟨⟨by omega, by omega⟩, fun j h1 h2 => ?_, fun h => ih.2.2 (by omega)⟩
      by_cases cj : j = i
      · subst cj
        exact c
      · exact ih.2.1 j (by omega) h2
theorem fbF_eq {p : Nat → Bool} {k i : Nat} (hi : i < k) (h : p i = true) (hb : ∀ j, j < i → p j = false) : fbF p k 0 = i := by
  have hk := fbF_ok p k 0
  by_cases c : fbF p k 0 < i
  · have h1 := hb _ c
    rw [hk.2.2 (by omega)] at h1
    cases h1
  · by_cases c2 : i < fbF p k 0
    · have h1 := hk.2.1 i (by omega) c2
      rw [h] at h1
      cases h1
    · omega
/-- a least number -/
theorem least {P : Nat → Prop} : ∀ {d : Nat}, P d → ∃ N, P N ∧ (∀ e, e < N → ¬ P e) ∧ N ≤ d := by
  intro d
  induction d using Nat.strongRecOn with
  | _ d ih =>
    intro h
    by_cases c : ∃ e, e < d ∧ P e
    · obtain ⟨e, he, hp⟩ := c
      obtain ⟨N, h1, h2, h3⟩ := ih e he hp
      exact ⟨N, h1, h2, by omega⟩
    · exact ⟨d, h, fun e he hp => c ⟨e, he, hp⟩, Nat.le_refl _⟩
/-- a nest of pigeons -/
theorem pigeon : ∀ {b a : Nat} (f : Nat → Nat), (∀ i, i < a → f i < b) → (∀ i j, i < a → j < a → f i = f j → i = j) → a ≤ b
  | 0, a, f, h1, _ => by
    by_cases c : a = 0
    · omega
    · exact absurd (h1 0 (by omega)) (by omega)
  | b + 1, a, f, h1, h2 => by
    by_cases c : ∃ i, i < a ∧ f i = b
    · obtain ⟨k, hk, ek⟩ := c
      have := pigeon (b := b) (a := a - 1) (fun i => if i < k then f i else f (i + 1)) (fun i hi => by
        show (if i < k then f i else f (i + 1)) < b
        by_cases ci : i < k
        · rw [if_pos ci]
          have h3 := h1 i (by omega)
          have h4 : f i ≠ b := fun z => by
            have := h2 i k (by omega) hk (by omega)
            omega
          omega
        · rw [if_neg ci]
          have h3 := h1 (i + 1) (by omega)
          have h4 : f (i + 1) ≠ b := fun z => by
            have := h2 (i + 1) k (by omega) hk (by omega)
            omega
          omega) (fun i j hi hj e => by
        have e : (if i < k then f i else f (i + 1)) = (if j < k then f j else f (j + 1)) := e
        by_cases ci : i < k
        · by_cases cj : j < k
          · rw [if_pos ci, if_pos cj] at e
            exact h2 i j (by omega) (by omega) e
          · rw [if_pos ci, if_neg cj] at e
            have := h2 i (j + 1) (by omega) (by omega) e
            omega
        · by_cases cj : j < k
          · rw [if_neg ci, if_pos cj] at e
            have := h2 (i + 1) j (by omega) (by omega) e
            omega
          · rw [if_neg ci, if_neg cj] at e
            have := h2 (i + 1) (j + 1) (by omega) (by omega) e
            omega)
      omega
    · have := pigeon (b := b) (a := a) f (fun i hi => by
        have h3 := h1 i hi
        have h4 : f i ≠ b := fun z => c ⟨i, hi, z⟩
        omega) h2
      omega

def tbT (T : Nat) (g : Nat → Bool) : Prop := ∀ r, T ≤ r → g r = false
def rcn (f : Nat → Bool) : Nat → Nat
  | 0 => 0
  | k + 1 => rcn f k + pcL (pkw f k)
theorem rcn_cnt (f : Nat → Bool) : ∀ k, rcn f k = cntB f (64 * k)
  | 0 => rfl
  | k + 1 => by
    show rcn f k + pcL (pkw f k) = cntB f (64 * k + 64)
    rw [rcn_cnt f k, cntB_add, ← pcL_cnt]
    exact congrArg _ (cntB_cg (fun i hi => bL_pkw hi))
theorem rcn_le (f : Nat → Bool) (k : Nat) : rcn f k ≤ 64 * k := by
  rw [rcn_cnt]
  exact cntB_le _ _
/-- leaves: 0 never so, 1 always so, -1 neither -/
def lfv (T : Nat) (f : Nat → Bool) : Int := if rcn f 16 = 0 then 0 else if rcn f 16 = T then 1 else -1
theorem rcn_T {T : Nat} {f : Nat → Bool} (hT : T ≤ 1024) (ht : tbT T f) : rcn f 16 = cntB f T := by
  rw [rcn_cnt, show 64 * 16 = T + (1024 - T) from by omega, cntB_add, cntB_z.mpr (fun i _ => ht (T + i) (by omega)), Nat.add_zero]
theorem lfv_0 {T : Nat} {f : Nat → Bool} (hT : T ≤ 1024) (h0 : 0 < T) (ht : tbT T f) : lfv T f = 0 ↔ ∀ r, r < T → f r = false := by
  unfold lfv
  rw [rcn_T hT ht, ← cntB_z]
  by_cases c : cntB f T = 0
  · rw [if_pos c]
    exact ⟨fun _ => c, fun _ => rfl⟩
  · rw [if_neg c]
    refine ⟨fun h => ?_, fun h => absurd h c⟩
    split at h <;> cases h
theorem lfv_1 {T : Nat} {f : Nat → Bool} (hT : T ≤ 1024) (h0 : 0 < T) (ht : tbT T f) : lfv T f = 1 ↔ ∀ r, r < T → f r = true := by
  unfold lfv
  rw [rcn_T hT ht, ← cntB_f2]
  by_cases c : cntB f T = 0
  · rw [if_pos c]
    exact ⟨fun h => (by cases h), fun h => by omega⟩
  · rw [if_neg c]
    by_cases c2 : cntB f T = T
    · rw [if_pos c2]
      exact ⟨fun _ => c2, fun _ => rfl⟩
    · rw [if_neg c2]
      exact ⟨fun h => (by cases h), fun h => absurd h c2⟩
theorem lfv_v (T : Nat) (f : Nat → Bool) : lfv T f = 0 ∨ lfv T f = 1 ∨ lfv T f = -1 := by
  unfold lfv
  split
  · exact Or.inl rfl
  · split
    · exact Or.inr (Or.inl rfl)
    · exact Or.inr (Or.inr rfl)
def eqW (f g : Nat → Bool) : Bool := allB (fun k => decide (pkw f k = pkw g k)) 16
theorem eqW_iff {f g : Nat → Bool} : eqW f g = true ↔ ∀ r, r < 1024 → f r = g r := by
  unfold eqW
  rw [allB_iff]
  constructor
  · intro h r hr
    have := pkw_inj (of_decide_eq_true (h (r / 64) (by omega))) (Nat.mod_lt r (by decide))
    rw [Nat.div_add_mod] at this
    exact this
  · exact fun h k hk => decide_eq_true (pkw_all h hk)
theorem eqW_tb {T : Nat} {f g : Nat → Bool} (hT : T ≤ 1024) (hf : tbT T f) (hg : tbT T g) : eqW f g = true ↔ f = g := by
  rw [eqW_iff]
  constructor
  · intro h
    refine funext fun r => ?_
    by_cases c : r < 1024
    · exact h r c
    · rw [hf r (by omega), hg r (by omega)]
  · rintro rfl r _
    rfl
theorem eqW_refl (f : Nat → Bool) : eqW f f = true := eqW_iff.mpr (fun _ _ => rfl)
theorem eqW_symm {f g : Nat → Bool} (h : eqW f g = true) : eqW g f = true := eqW_iff.mpr (fun r hr => (eqW_iff.mp h r hr).symm)
theorem eqW_pk {f g : Nat → Bool} (h : eqW f g = true) {k : Nat} (hk : k < 16) : pkw f k = pkw g k := of_decide_eq_true (allB_iff.mp h k hk)
/-- the hash of a table -/
def ush (x : Int64) (j : Int32) : Int64 := (x.toUInt64 >>> (j.toInt64.toUInt64 &&& Int64.toUInt64 63)).toInt64
def hsr (g : Nat → Bool) : Nat → Int64
  | 0 => lN 7
  | k + 1 => ((hsr g k ^^^ pkw g k) * lN 11400714819323198485) ^^^ ush ((hsr g k ^^^ pkw g k) * lN 11400714819323198485) (iI 31)
def hs (g : Nat → Bool) : Nat := (hsr g 16).toBitVec.toNat / 2 ^ 49
theorem hs_lt (g : Nat → Bool) : hs g < 32768 := by
  have := (hsr g 16).toBitVec.isLt
  unfold hs
  omega
theorem hsr_c {f g : Nat → Bool} (h : eqW f g = true) : ∀ {k : Nat}, k ≤ 16 → hsr f k = hsr g k
  | 0, _ => rfl
  | k + 1, hk => by
    unfold hsr
    rw [hsr_c h (k := k) (by omega), eqW_pk h (by omega)]
theorem hs_c {f g : Nat → Bool} (h : eqW f g = true) : hs f = hs g := by
  unfold hs
  rw [hsr_c h (Nat.le_refl 16)]
theorem hs_slot (g : Nat → Bool) : (ush (hsr g 16) (iI 49)).toInt32 = iI ((hs g : Nat) : Int) := by
  unfold hs ush
  have hx := lN_of (hsr g 16)
  have hl := (hsr g 16).toBitVec.isLt
  generalize (hsr g 16).toBitVec.toNat = a at *
  rw [hx, show iI 49 = iI ((49 : Nat) : Int) from rfl, lN_shr hl (by decide)]
  show (Int64.ofNat _).toInt32 = Int32.ofInt _
  rw [Int32.ofInt_eq_ofNat]
  exact Int64.toInt32_ofNat
/-- a list of tables: how many, which -/
def addN (T : Nat) (c : Nat) (L : Nat → Nat → Bool) (g : Nat → Bool) : Nat × (Nat → Nat → Bool) := if lfv T g ≠ -1 then (c, L) else if fbF (fun i => eqW (L i) g) c 0 < c then (c, L) else (c + 1, fun i => if i = c then g else L i)
def cdN (T : Nat) (c : Nat) (L : Nat → Nat → Bool) (g : Nat → Bool) : Int := if lfv T g ≠ -1 then lfv T g else ((fbF (fun i => eqW (L i) g) c 0 : Nat) : Int) + 2
def nM (S : ST) (c : Nat) (L : Nat → Nat → Bool) : Prop := SI S 179 38 = (c : Nat) ∧ (∀ i, i < c → rowS S 195 (16 * i) (L i)) ∧ (∀ s, s < 32768 → SI S 198 s = -1 ∨ (0 ≤ SI S 198 s ∧ SI S 198 s < c)) ∧ (∀ s t, s < 32768 → t < 32768 → SI S 198 s = SI S 198 t → SI S 198 s ≠ -1 → s = t) ∧ (∀ i, i < c → ∃ d, SI S 198 ((hs (L i) + d) % 32768) = (i : Nat) ∧ ∀ e, e < d → SI S 198 ((hs (L i) + e) % 32768) ≠ -1) ∧ (∀ i j, i < j → j < c → eqW (L i) (L j) = false)
def frN (S S' : ST) : Prop := S'.1 = S.1 ∧ SR S' = SR S ∧ (∀ b, b ≠ 195 → SL S' b = SL S b) ∧ (∀ b, b ≠ 198 → b ≠ 179 → SI S' b = SI S b) ∧ (∀ f, f ≠ 38 → SI S' 179 f = SI S 179 f)
theorem frN_refl (S : ST) : frN S S := ⟨rfl, rfl, fun _ _ => rfl, fun _ _ _ => rfl, fun _ _ => rfl⟩
/-- an empty slot is there -/
theorem nM_free {S : ST} {c : Nat} {L : Nat → Nat → Bool} (hm : nM S c L) (hc : c < 32768) (h : Nat) : ∃ d, d < 32768 ∧ SI S 198 ((h + d) % 32768) = -1 := by
  refine Classical.byContradiction fun hn => ?_
  have hall : ∀ s, s < 32768 → SI S 198 s ≠ -1 := fun s hs e => hn ⟨(s + 32768 - h % 32768) % 32768, Nat.mod_lt _ (by decide), by rw [show (h + (s + 32768 - h % 32768) % 32768) % 32768 = s from by omega]; exact e⟩
  have := pigeon (b := c) (a := 32768) (fun s => (SI S 198 s).toNat) (fun i hi => by
    have h1 := hm.2.2.1 i hi
    have h2 := hall i hi
    show (SI S 198 i).toNat < c
    omega) (fun i j hi hj e => by
    have h1 := hm.2.2.1 i hi
    have h2 := hall i hi
    have h3 := hm.2.2.1 j hj
    have h4 := hall j hj
    have e : (SI S 198 i).toNat = (SI S 198 j).toNat := e
    exact hm.2.2.2.1 i j hi hj (by omega) h2)
  omega
theorem wIA_0 {S : ST} {a : Nat} {g : Nat → Int} (h : ∀ k, SI S a k = g k) : wIA S a g = S := st_ext rfl (funext fun b => by
  rw [SI_wIA]
  by_cases c : b = a
  · subst c
    rw [if_pos rfl]
    exact funext fun k => (h k).symm
  · rw [if_neg c]) rfl rfl
theorem wI_wIA {S : ST} {a i : Nat} {f g : Nat → Int} {x : Int} (h : ∀ k, (if k = i then x else f k) = g k) : wI (wIA S a f) a i x = wIA S a g := st_ext rfl (funext fun b => funext fun k => by
  rw [SI_wI, SI_wIA, SI_wIA]
  by_cases hb : b = a
  · subst hb
    rw [if_pos rfl, if_pos rfl, ← h k]
    by_cases hk : k = i
    · rw [if_pos ⟨rfl, hk⟩, if_pos hk]
    · rw [if_neg (fun z => hk z.2), if_neg hk]
  · rw [if_neg (fun z => hb z.1), if_neg hb, if_neg hb]) rfl rfl
section SIR
variable {X : List Int32} {d m pc : Nat} {st : List Value} {S : ST} {K : Nat → xx_L → List Value → ST → Prop}
theorem sItR {A : Nat → xx_L} (J : Nat → ST → Prop) (N : Nat) (h0 : J 0 S) (step : ∀ i, i < N → ∀ T, J i T → (∀ T', J (i + 1) T' → sT X d m pc (A (i + 1)) st T' K) → sT X d m pc (A i) st T K) (fin : ∀ T, J N T → sT X d m pc (A N) st T K) : sT X d m pc (A 0) st S K := by
  have go : ∀ j i T, i + j = N → J i T → sT X d m pc (A i) st T K := by
    intro j
    induction j with
    | zero =>
      intro i T hi hI
      have : i = N := by omega
      subst this
      exact fin T hI
    | succ j ih =>
      intro i T hi hI
      exact step i (by omega) T hI (fun T' h => ih (i + 1) T' (by omega) h)
  exact go N 0 S (by omega) h0
end SIR
section M6
variable {X : List Int32} {S : ST} {n : Nat} {sz : Nat → Nat} {fn : Nat} {a o N : Nat} {f g h : Nat → Bool} {Fn : Nat → Nat → Bool}
theorem row0 {S : ST} {a k : Nat} {f : Nat → Bool} (h : rowS S a 0 f) (hk : k < 16) : SL S a k = pkw f k := by
  have := h k hk
  rw [Nat.zero_add] at this
  exact this
theorem c_countRuns {i0 : Nat} (hi0 : i0 < 40) (hf : rowS S (9 + i0) 0 f) : sM X 1 78 [.ref 7, .int (iI (i0 : Nat))] S (sV (some (.int (iI ((rcn f 16 : Nat) : Int)))) S) := by
  refine sIni (ls := [some (.ref 7), some (.int (iI ((i0 : Nat) : Int))), none, none, none]) rfl ?_
  refine sL (pc' := 1) (i := .aload_n 0) rfl rfl ?_
  refine sL (pc' := 2) (i := .iload_n 1) rfl rfl ?_
  refine sCv (p := 5) (as := [_]) rfl rfl rfl rfl (by decide) (Nat.le_of_ble_eq_true rfl) rfl (Nat.le_of_ble_eq_true rfl) (sk_7 _) rfl (by omega) (c_row hi0) ?_
  refine sL (pc' := 6) (i := .astore_n 2) (ls' := [some (.ref 7), some (.int (iI ((i0 : Nat) : Int))), some (.ref (9 + i0)), none, none]) rfl rfl ?_
  refine sKi (p := 7) rfl rfl ?_
  refine sL (pc' := 8) (i := .istore_n 3) (ls' := [some (.ref 7), some (.int (iI ((i0 : Nat) : Int))), some (.ref (9 + i0)), some (.int (iI 0)), none]) rfl rfl ?_
  refine sKi (p := 9) rfl rfl ?_
  refine sL (pc' := 11) (i := .istore 4) (ls' := [some (.ref 7), some (.int (iI ((i0 : Nat) : Int))), some (.ref (9 + i0)), some (.int (iI 0)), some (.int (iI 0))]) rfl rfl ?_
  refine sIt (A := fun i => [some (.ref 7), some (.int (iI ((i0 : Nat) : Int))), some (.ref (9 + i0)), some (.int (iI ((rcn f i : Nat) : Int))), some (.int (iI ((i : Nat) : Int)))]) (B := fun _ => S) (fun _ => True) 16 True.intro (fun i hi11 hI11 ih11 => ?_) (fun hI11 => ?_)
  · have hi11 := hi11
    refine sL (pc' := 13) (i := .iload 4) rfl rfl ?_
    refine sKb (p := 15) rfl rfl ?_
    refine sIc_ge (p := 18) rfl rfl ⟨by omega, by omega⟩ ⟨by omega, by omega⟩ (fun c1 => ?_) (fun c1 => ?_)
    · exfalso; omega
    · have c1 := c1
      refine sL (pc' := 19) (i := .iload_n 3) rfl rfl ?_
      refine sL (pc' := 20) (i := .aload_n 2) rfl rfl ?_
      refine sL (pc' := 22) (i := .iload 4) rfl rfl ?_
      refine sAl (p := 23) (i := i) rfl rfl (sk_rows _ hi0) (by omega) ⟨by omega, by omega⟩ (row0 hf (by omega)) ?_
      refine sCs (p := 26) (as := [_]) rfl rfl rfl rfl (by decide) (Nat.le_of_ble_eq_true rfl) rfl (Nat.le_of_ble_eq_true rfl) rfl (by omega) (c_bitCount (pkw f i)) ?_
      refine sAd (p := 27) rfl rfl ?_
      refine sL (pc' := 28) (i := .istore_n 3) (ls' := [some (.ref 7), some (.int (iI ((i0 : Nat) : Int))), some (.ref (9 + i0)), some (.int (iI (((rcn f i : Nat) : Int) + ((pcL (pkw f i) : Nat) : Int)))), some (.int (iI ((i : Nat) : Int)))]) rfl rfl ?_
      refine sInX (z := ((i : Nat) : Int)) (ls' := [some (.ref 7), some (.int (iI ((i0 : Nat) : Int))), some (.ref (9 + i0)), some (.int (iI (((rcn f i : Nat) : Int) + ((pcL (pkw f i) : Nat) : Int)))), some (.int (iI (((i : Nat) : Int) + 1)))]) (p := 31) rfl rfl (Nat.le_of_ble_eq_true rfl) rfl rfl ?_
      refine sL (i := .goto (-20)) rfl rfl ?_
      refine sRo (ls := [some (.ref 7), some (.int (iI ((i0 : Nat) : Int))), some (.ref (9 + i0)), some (.int (iI ((rcn f (i + 1) : Nat) : Int))), some (.int (iI ((i + 1 : Nat) : Int)))]) (T := _) (And.intro rfl (And.intro rfl (And.intro rfl (And.intro (congrArg (fun z => some (Value.int z)) (rfl)) (And.intro rfl (True.intro)))))) (rfl) (ih11 ?_)
      exact True.intro
  · have hI11 := hI11
    refine sL (pc' := 13) (i := .iload 4) rfl rfl ?_
    refine sKb (p := 15) rfl rfl ?_
    refine sIc_ge (p := 18) rfl rfl ⟨by omega, by omega⟩ ⟨by omega, by omega⟩ (fun c2 => ?_) (fun c2 => ?_)
    · have c2 := c2
      refine sL (pc' := 35) (i := .iload_n 3) rfl rfl ?_
      refine sEn (i := .ireturn) rfl (rfl) ?_
      exact ⟨rfl, rfl⟩
    · exact absurd c2 (by decide)
def rRuns (fn : Nat) (f : Nat → Bool) (x : Int) : Int := if ¬ (0 ≤ x ∧ x < fn) then -101 else ((rcn f 16 : Nat) : Int)
theorem m_runs {x : Int} (hfn : SI S 179 9 = (fn : Nat)) (h40 : fn ≤ 40) (hF : ∀ i, i < fn → rowS S 185 (16 * i) (Fn i)) (hx : rg x) : sM X 2 213 [.ref 179, .int (iI x)] S (sV (some (.int (iI (rRuns fn (Fn x.toNat) x)))) S) := by
  have x1 := hx.1
  have x2 := hx.2
  refine sIni (ls := [some (.ref 179), some (.int (iI x)), none, none]) rfl ?_
  refine sL (pc' := 1) (i := .aload_n 0) rfl rfl ?_
  refine sL (pc' := 2) (i := .iload_n 1) rfl rfl ?_
  refine sCv (p := 5) (as := [_]) rfl rfl rfl rfl (by decide) (Nat.le_of_ble_eq_true rfl) rfl (Nat.le_of_ble_eq_true rfl) (sk_179 _) rfl (by omega) (m_isFunction hx hfn h40) ?_
  refine sBn (p := 8) rfl rfl (fun c1 => ?_) (fun c1 => ?_)
  · have c1 := c1
    have c1 := of_decide_eq_true c1
    obtain ⟨f0, rfl⟩ : ∃ f0 : Nat, x = (f0 : Int) := ⟨x.toNat, by omega⟩
    have hf0 : f0 < fn := by omega
    refine sKi (p := 12) rfl rfl ?_
    refine sL (pc' := 13) (i := .istore_n 2) (ls' := [some (.ref 179), some (.int (iI ((f0 : Nat) : Int))), some (.int (iI 0)), none]) rfl rfl ?_
    refine sKi (p := 14) rfl rfl ?_
    refine sL (pc' := 15) (i := .istore_n 3) (ls' := [some (.ref 179), some (.int (iI ((f0 : Nat) : Int))), some (.int (iI 0)), some (.int (iI 0))]) rfl rfl ?_
    refine sIt (A := fun i => [some (.ref 179), some (.int (iI ((f0 : Nat) : Int))), some (.int (iI ((rcn (Fn f0) i : Nat) : Int))), some (.int (iI ((i : Nat) : Int)))]) (B := fun _ => S) (fun _ => True) 16 True.intro (fun i hi15 hI15 ih15 => ?_) (fun hI15 => ?_)
    · have hi15 := hi15
      refine sL (pc' := 16) (i := .iload_n 3) rfl rfl ?_
      refine sKb (p := 18) rfl rfl ?_
      refine sIc_ge (p := 21) rfl rfl ⟨by omega, by omega⟩ ⟨by omega, by omega⟩ (fun c2 => ?_) (fun c2 => ?_)
      · exfalso; omega
      · have c2 := c2
        refine sL (pc' := 22) (i := .iload_n 2) rfl rfl ?_
        refine sL (pc' := 23) (i := .aload_n 0) rfl rfl ?_
        refine sGc (p := 26) rfl rfl (sk_179 _) rfl rfl rfl ?_
        refine sKb (p := 28) rfl rfl ?_
        refine sL (pc' := 29) (i := .iload_n 1) rfl rfl ?_
        refine sMu (p := 30) rfl rfl ?_
        refine sL (pc' := 31) (i := .iload_n 3) rfl rfl ?_
        refine sAd (p := 32) rfl rfl ?_
        refine sAl (p := 33) (i := 16 * f0 + i) rfl rfl (sk_185 _) (by omega) ⟨by omega, by omega⟩ (hF f0 hf0 i (by omega)) ?_
        refine sCs (p := 36) (as := [_]) rfl rfl rfl rfl (by decide) (Nat.le_of_ble_eq_true rfl) rfl (Nat.le_of_ble_eq_true rfl) rfl (by omega) (m_bits (pkw (Fn f0) i)) ?_
        refine sAd (p := 37) rfl rfl ?_
        refine sL (pc' := 38) (i := .istore_n 2) (ls' := [some (.ref 179), some (.int (iI ((f0 : Nat) : Int))), some (.int (iI (((rcn (Fn f0) i : Nat) : Int) + ((pcL (pkw (Fn f0) i) : Nat) : Int)))), some (.int (iI ((i : Nat) : Int)))]) rfl rfl ?_
        refine sInX (z := ((i : Nat) : Int)) (ls' := [some (.ref 179), some (.int (iI ((f0 : Nat) : Int))), some (.int (iI (((rcn (Fn f0) i : Nat) : Int) + ((pcL (pkw (Fn f0) i) : Nat) : Int)))), some (.int (iI (((i : Nat) : Int) + 1)))]) (p := 41) rfl rfl (Nat.le_of_ble_eq_true rfl) rfl rfl ?_
        refine sL (i := .goto (-26)) rfl rfl ?_
        refine sRo (ls := [some (.ref 179), some (.int (iI ((f0 : Nat) : Int))), some (.int (iI ((rcn (Fn f0) (i + 1) : Nat) : Int))), some (.int (iI ((i + 1 : Nat) : Int)))]) (T := _) (And.intro rfl (And.intro rfl (And.intro (congrArg (fun z => some (Value.int z)) (rfl)) (And.intro rfl (True.intro))))) (rfl) (ih15 ?_)
        exact True.intro
    · have hI15 := hI15
      refine sL (pc' := 16) (i := .iload_n 3) rfl rfl ?_
      refine sKb (p := 18) rfl rfl ?_
      refine sIc_ge (p := 21) rfl rfl ⟨by omega, by omega⟩ ⟨by omega, by omega⟩ (fun c3 => ?_) (fun c3 => ?_)
      · have c3 := c3
        refine sL (pc' := 45) (i := .iload_n 2) rfl rfl ?_
        refine sEn (i := .ireturn) rfl (rfl) ?_
        refine ⟨congrArg (fun z => some (Value.int (iI z))) ?_, rfl⟩
        unfold rRuns
        rw [if_neg (by omega)]
        all_goals rfl
      · exact absurd c3 (by decide)
  · have c1 := c1
    have c1 := of_decide_eq_false c1
    refine sKb (p := 10) rfl rfl ?_
    refine sEn (i := .ireturn) rfl (rfl) ?_
    refine ⟨congrArg (fun z => some (Value.int (iI z))) ?_, rfl⟩
    unfold rRuns
    rw [if_pos (by omega)]
    all_goals rfl
theorem m_leaf (hv : vM S n sz) (hka : kd S a = some (.inl (2, N))) (hN : o + 16 ≤ N ∧ N < 1000000) (hf : rowS S a o f) : sM X 1 227 [.ref 179, .ref a, .int (iI (o : Nat))] S (sV (some (.int (iI (lfv (pr sz n) f)))) S) := by
  have hn := hv.1.1
  have hT0 := hv.1.2.2
  refine sIni (ls := [some (.ref 179), some (.ref a), some (.int (iI ((o : Nat) : Int))), none, none]) rfl ?_
  refine sKi (p := 1) rfl rfl ?_
  refine sL (pc' := 2) (i := .istore_n 3) (ls' := [some (.ref 179), some (.ref a), some (.int (iI ((o : Nat) : Int))), some (.int (iI 0)), none]) rfl rfl ?_
  refine sKi (p := 3) rfl rfl ?_
  refine sL (pc' := 5) (i := .istore 4) (ls' := [some (.ref 179), some (.ref a), some (.int (iI ((o : Nat) : Int))), some (.int (iI 0)), some (.int (iI 0))]) rfl rfl ?_
  refine sIt (A := fun i => [some (.ref 179), some (.ref a), some (.int (iI ((o : Nat) : Int))), some (.int (iI ((rcn f i : Nat) : Int))), some (.int (iI ((i : Nat) : Int)))]) (B := fun _ => S) (fun _ => True) 16 True.intro (fun i hi5 hI5 ih5 => ?_) (fun hI5 => ?_)
  · have hi5 := hi5
    refine sL (pc' := 7) (i := .iload 4) rfl rfl ?_
    refine sKb (p := 9) rfl rfl ?_
    refine sIc_ge (p := 12) rfl rfl ⟨by omega, by omega⟩ ⟨by omega, by omega⟩ (fun c1 => ?_) (fun c1 => ?_)
    · exfalso; omega
    · have c1 := c1
      refine sL (pc' := 13) (i := .iload_n 3) rfl rfl ?_
      refine sL (pc' := 14) (i := .aload_n 1) rfl rfl ?_
      refine sL (pc' := 15) (i := .iload_n 2) rfl rfl ?_
      refine sL (pc' := 17) (i := .iload 4) rfl rfl ?_
      refine sAd (p := 18) rfl rfl ?_
      refine sAl (p := 19) (i := o + i) rfl rfl hka (by omega) ⟨by omega, by omega⟩ (hf i (by omega)) ?_
      refine sCs (p := 22) (as := [_]) rfl rfl rfl rfl (by decide) (Nat.le_of_ble_eq_true rfl) rfl (Nat.le_of_ble_eq_true rfl) rfl (by omega) (m_bits (pkw f i)) ?_
      refine sAd (p := 23) rfl rfl ?_
      refine sL (pc' := 24) (i := .istore_n 3) (ls' := [some (.ref 179), some (.ref a), some (.int (iI ((o : Nat) : Int))), some (.int (iI (((rcn f i : Nat) : Int) + ((pcL (pkw f i) : Nat) : Int)))), some (.int (iI ((i : Nat) : Int)))]) rfl rfl ?_
      refine sInX (z := ((i : Nat) : Int)) (ls' := [some (.ref 179), some (.ref a), some (.int (iI ((o : Nat) : Int))), some (.int (iI (((rcn f i : Nat) : Int) + ((pcL (pkw f i) : Nat) : Int)))), some (.int (iI (((i : Nat) : Int) + 1)))]) (p := 27) rfl rfl (Nat.le_of_ble_eq_true rfl) rfl rfl ?_
      refine sL (i := .goto (-22)) rfl rfl ?_
      refine sRo (ls := [some (.ref 179), some (.ref a), some (.int (iI ((o : Nat) : Int))), some (.int (iI ((rcn f (i + 1) : Nat) : Int))), some (.int (iI ((i + 1 : Nat) : Int)))]) (T := _) (And.intro rfl (And.intro rfl (And.intro rfl (And.intro (congrArg (fun z => some (Value.int z)) (rfl)) (And.intro rfl (True.intro)))))) (rfl) (ih5 ?_)
      exact True.intro
  · have hI5 := hI5
    have hl := rcn_le f 16
    refine sL (pc' := 7) (i := .iload 4) rfl rfl ?_
    refine sKb (p := 9) rfl rfl ?_
    refine sIc_ge (p := 12) rfl rfl ⟨by omega, by omega⟩ ⟨by omega, by omega⟩ (fun c2 => ?_) (fun c2 => ?_)
    · have c2 := c2
      refine sL (pc' := 31) (i := .iload_n 3) rfl rfl ?_
      refine sIf_ne (p := 34) rfl rfl ⟨by omega, by omega⟩ (fun c3 => ?_) (fun c3 => ?_)
      · have c3 := c3
        refine sL (pc' := 39) (i := .iload_n 3) rfl rfl ?_
        refine sL (pc' := 40) (i := .aload_n 0) rfl rfl ?_
        refine sGi (p := 43) rfl rfl (sk_179 _) rfl rfl rfl hv.2.2.1 ?_
        refine sIc_ne (p := 46) rfl rfl ⟨by omega, by omega⟩ ⟨by omega, by omega⟩ (fun c4 => ?_) (fun c4 => ?_)
        · have c4 := c4
          refine sKi (p := 51) rfl rfl ?_
          refine sEn (i := .ireturn) rfl (rfl) ?_
          refine ⟨congrArg (fun z => some (Value.int (iI z))) ?_, rfl⟩
          unfold lfv
          rw [if_neg (by omega), if_neg (by omega)]
        · have c4 := c4
          refine sKi (p := 47) rfl rfl ?_
          refine sL (i := .goto 4) rfl rfl ?_
          refine sEn (i := .ireturn) rfl (rfl) ?_
          refine ⟨congrArg (fun z => some (Value.int (iI z))) ?_, rfl⟩
          unfold lfv
          rw [if_neg (by omega), if_pos (by omega)]
      · have c3 := c3
        refine sKi (p := 35) rfl rfl ?_
        refine sL (i := .goto 16) rfl rfl ?_
        refine sEn (i := .ireturn) rfl (rfl) ?_
        refine ⟨congrArg (fun z => some (Value.int (iI z))) ?_, rfl⟩
        unfold lfv
        rw [if_pos (by omega)]
    · exact absurd c2 (by decide)
def oM (S : ST) (n : Nat) (ord : Nat → Nat) : Prop := ∀ i, i < n → SI S 184 i = (ord i : Nat)
def dpT (n : Nat) (sz : Nat → Nat) (f : Nat → Bool) (v : Nat) : Bool := anyB (dpB sz f v) (pr sz n)
/-- the place of the first variable that a table depends on -/
def fpl (n : Nat) (sz ord : Nat → Nat) (f : Nat → Bool) : Nat := fbF (fun p => dpT n sz f (ord p)) n 0
theorem m_firstBy {ord : Nat → Nat} (hv : vM S n sz) (ho : oM S n ord) (hon : ∀ i, i < n → ord i < n) (hka : kd S a = some (.inl (2, N))) (hN : o + 16 ≤ N ∧ N < 1000000) (hf : rowS S a o f) (hp : fpl n sz ord f < n) : sM X 3 228 [.ref 179, .ref a, .int (iI (o : Nat))] S (sV (some (.int (iI (ord (fpl n sz ord f) : Nat)))) S) := by
  have hn := hv.1.1
  have hT0 := hv.1.2.2
  have hk := fbF_ok (fun p => dpT n sz f (ord p)) n 0
  refine sIni (ls := [some (.ref 179), some (.ref a), some (.int (iI ((o : Nat) : Int))), none]) rfl ?_
  refine sKi (p := 1) rfl rfl ?_
  refine sL (pc' := 2) (i := .istore_n 3) (ls' := [some (.ref 179), some (.ref a), some (.int (iI ((o : Nat) : Int))), some (.int (iI 0))]) rfl rfl ?_
  refine sIt (A := fun i => [some (.ref 179), some (.ref a), some (.int (iI ((o : Nat) : Int))), some (.int (iI ((i : Nat) : Int)))]) (B := fun _ => S) (fun _ => True) (fpl n sz ord f) True.intro (fun i hi2 hI2 ih2 => ?_) (fun hI2 => ?_)
  · have hi2 := hi2
    refine sL (pc' := 3) (i := .aload_n 0) rfl rfl ?_
    refine sL (pc' := 4) (i := .aload_n 1) rfl rfl ?_
    refine sL (pc' := 5) (i := .iload_n 2) rfl rfl ?_
    refine sL (pc' := 6) (i := .aload_n 0) rfl rfl ?_
    refine sGc (p := 9) rfl rfl (sk_179 _) rfl rfl rfl ?_
    refine sL (pc' := 10) (i := .iload_n 3) rfl rfl ?_
    refine sAi (p := 11) (i := i) rfl rfl (sk_184 _) (by omega) ⟨by omega, by omega⟩ (ho _ (by omega)) ?_
    refine sCv (p := 14) (as := [_, _, _]) rfl rfl rfl rfl (by decide) (Nat.le_of_ble_eq_true rfl) rfl (Nat.le_of_ble_eq_true rfl) (sk_179 _) rfl (by omega) (m_isBy hv hka hN hf (hon _ (by omega))) ?_
    refine sBn (p := 17) rfl rfl (fun c1 => ?_) (fun c1 => ?_)
    · exfalso; have := hk.2.1 i (by omega) hi2; exact absurd ((show dpT n sz f (ord i) = true from c1).symm.trans this) (by decide)
    · have c1 := c1
      refine sInX (z := ((i : Nat) : Int)) (ls' := [some (.ref 179), some (.ref a), some (.int (iI ((o : Nat) : Int))), some (.int (iI (((i : Nat) : Int) + 1)))]) (p := 20) rfl rfl (Nat.le_of_ble_eq_true rfl) rfl rfl ?_
      refine sL (i := .goto (-18)) rfl rfl ?_
      refine sRo (ls := [some (.ref 179), some (.ref a), some (.int (iI ((o : Nat) : Int))), some (.int (iI ((i + 1 : Nat) : Int)))]) (T := _) (And.intro rfl (And.intro rfl (And.intro rfl (And.intro rfl (True.intro))))) (rfl) (ih2 ?_)
      exact True.intro
  · have hI2 := hI2
    refine sL (pc' := 3) (i := .aload_n 0) rfl rfl ?_
    refine sL (pc' := 4) (i := .aload_n 1) rfl rfl ?_
    refine sL (pc' := 5) (i := .iload_n 2) rfl rfl ?_
    refine sL (pc' := 6) (i := .aload_n 0) rfl rfl ?_
    refine sGc (p := 9) rfl rfl (sk_179 _) rfl rfl rfl ?_
    refine sL (pc' := 10) (i := .iload_n 3) rfl rfl ?_
    refine sAi (p := 11) (i := fpl n sz ord f) rfl rfl (sk_184 _) (by omega) ⟨by omega, by omega⟩ (ho _ (by omega)) ?_
    refine sCv (p := 14) (as := [_, _, _]) rfl rfl rfl rfl (by decide) (Nat.le_of_ble_eq_true rfl) rfl (Nat.le_of_ble_eq_true rfl) (sk_179 _) rfl (by omega) (m_isBy hv hka hN hf (hon _ (by omega))) ?_
    refine sBn (p := 17) rfl rfl (fun c2 => ?_) (fun c2 => ?_)
    · have c2 := c2
      refine sL (pc' := 24) (i := .aload_n 0) rfl rfl ?_
      refine sGc (p := 27) rfl rfl (sk_179 _) rfl rfl rfl ?_
      refine sL (pc' := 28) (i := .iload_n 3) rfl rfl ?_
      refine sAi (p := 29) (i := fpl n sz ord f) rfl rfl (sk_184 _) (by omega) ⟨by omega, by omega⟩ (ho _ (by omega)) ?_
      refine sEn (i := .ireturn) rfl (rfl) ?_
      exact ⟨rfl, rfl⟩
    · exfalso; have := hk.2.2 (by show fpl n sz ord f < 0 + n; omega); exact absurd ((show dpT n sz f (ord (fpl n sz ord f)) = false from c2).symm.trans this) (by decide)
theorem m_empty : sM X 0 229 [.ref 179] S (sV none (wIA (wI S 179 38 0) 198 (fun k => if k < 32768 then -1 else SI S 198 k))) := by
  refine sIni (ls := [some (.ref 179), none]) rfl ?_
  refine sL (pc' := 1) (i := .aload_n 0) rfl rfl ?_
  refine sKi (p := 2) rfl rfl ?_
  refine sPi (z := 0) (p := 5) rfl rfl (sk_179 _) rfl rfl rfl rfl ?_
  refine sKi (p := 6) rfl rfl ?_
  refine sL (pc' := 7) (i := .istore_n 1) (ls' := [some (.ref 179), some (.int (iI 0))]) rfl rfl ?_
  refine sSh (T := wIA (wI S 179 38 0) 198 (fun k => if k < 0 then -1 else SI S 198 k)) (congrArg sH (wIA_0 (by intro k; exact (if_neg (Nat.not_lt_zero k)).symm)).symm) ?_
  refine sIt (A := fun i => [some (.ref 179), some (.int (iI ((i : Nat) : Int)))]) (B := fun i => wIA (wI S 179 38 0) 198 (fun k => if k < i then -1 else SI S 198 k)) (fun _ => True) 32768 True.intro (fun i hi7 hI7 ih7 => ?_) (fun hI7 => ?_)
  · have hi7 := hi7
    refine sL (pc' := 8) (i := .iload_n 1) rfl rfl ?_
    refine sKl (p := 10) rfl rfl ?_
    refine sIc_ge (p := 13) rfl rfl ⟨by omega, by omega⟩ ⟨by omega, by omega⟩ (fun c1 => ?_) (fun c1 => ?_)
    · exfalso; omega
    · have c1 := c1
      refine sL (pc' := 14) (i := .aload_n 0) rfl rfl ?_
      refine sGc (p := 17) rfl rfl (sk_179 _) rfl rfl rfl ?_
      refine sL (pc' := 18) (i := .iload_n 1) rfl rfl ?_
      refine sKi (p := 19) rfl rfl ?_
      refine sWi (p := 20) (i := i) rfl rfl (sk_198 _) (by omega) ⟨by omega, by omega⟩ ?_
      refine sInX (z := ((i : Nat) : Int)) (ls' := [some (.ref 179), some (.int (iI (((i : Nat) : Int) + 1)))]) (p := 23) rfl rfl (Nat.le_of_ble_eq_true rfl) rfl rfl ?_
      refine sL (i := .goto (-16)) rfl rfl ?_
      refine sRo (ls := [some (.ref 179), some (.int (iI ((i + 1 : Nat) : Int)))]) (T := wIA (wI S 179 38 0) 198 (fun k => if k < i + 1 then -1 else SI S 198 k)) (And.intro rfl (And.intro rfl (True.intro))) (congrArg sH (wI_wIA (fun k => by by_cases c : k = i; (subst c; rw [if_pos rfl, if_pos (Nat.lt_succ_self _)]); (rw [if_neg c]; by_cases c2 : k < i; (rw [if_pos c2, if_pos (by omega)]); (rw [if_neg c2, if_neg (by omega)]))))) (ih7 ?_)
      exact True.intro
  · have hI7 := hI7
    refine sL (pc' := 8) (i := .iload_n 1) rfl rfl ?_
    refine sKl (p := 10) rfl rfl ?_
    refine sIc_ge (p := 13) rfl rfl ⟨by omega, by omega⟩ ⟨by omega, by omega⟩ (fun c2 => ?_) (fun c2 => ?_)
    · have c2 := c2
      refine sEn (i := .return_) rfl (rfl) ?_
      exact ⟨rfl, rfl⟩
    · exact absurd c2 (by decide)
theorem m_isSame {i0 : Nat} {t : Nat → Bool} (hi0 : i0 < 12000) (ht : rowS S 195 (16 * i0) t) (hka : kd S a = some (.inl (2, N))) (hN : o + 16 ≤ N ∧ N < 1000000) (hf : rowS S a o f) : sM X 0 231 [.ref 179, .int (iI ((16 * i0 : Nat) : Int)), .ref a, .int (iI (o : Nat))] S (sV (some (.int (iI (bI (eqW t f))))) S) := by
  refine sIni (ls := [some (.ref 179), some (.int (iI (((16 * i0 : Nat) : Int)))), some (.ref a), some (.int (iI ((o : Nat) : Int))), none]) rfl ?_
  refine sKi (p := 1) rfl rfl ?_
  refine sL (pc' := 3) (i := .istore 4) (ls' := [some (.ref 179), some (.int (iI (((16 * i0 : Nat) : Int)))), some (.ref a), some (.int (iI ((o : Nat) : Int))), some (.int (iI 0))]) rfl rfl ?_
  refine sIt (A := fun i => [some (.ref 179), some (.int (iI (((16 * i0 : Nat) : Int)))), some (.ref a), some (.int (iI ((o : Nat) : Int))), some (.int (iI ((i : Nat) : Int)))]) (B := fun _ => S) (fun i => allB (fun k => decide (pkw t k = pkw f k)) i = true) 16 rfl (fun i hi3 hI3 ih3 => ?_) (fun hI3 => ?_)
  · have hi3 := hi3
    refine sL (pc' := 5) (i := .iload 4) rfl rfl ?_
    refine sKb (p := 7) rfl rfl ?_
    refine sIc_ge (p := 10) rfl rfl ⟨by omega, by omega⟩ ⟨by omega, by omega⟩ (fun c1 => ?_) (fun c1 => ?_)
    · exfalso; omega
    · have c1 := c1
      refine sL (pc' := 11) (i := .aload_n 0) rfl rfl ?_
      refine sGc (p := 14) rfl rfl (sk_179 _) rfl rfl rfl ?_
      refine sL (pc' := 15) (i := .iload_n 1) rfl rfl ?_
      refine sL (pc' := 17) (i := .iload 4) rfl rfl ?_
      refine sAd (p := 18) rfl rfl ?_
      refine sAl (p := 19) (i := (16 * i0) + i) rfl rfl (sk_195 _) (by omega) ⟨by omega, by omega⟩ (ht i (by omega)) ?_
      refine sL (pc' := 20) (i := .aload_n 2) rfl rfl ?_
      refine sL (pc' := 21) (i := .iload_n 3) rfl rfl ?_
      refine sL (pc' := 23) (i := .iload 4) rfl rfl ?_
      refine sAd (p := 24) rfl rfl ?_
      refine sAl (p := 25) (i := o + i) rfl rfl hka (by omega) ⟨by omega, by omega⟩ (hf i (by omega)) ?_
      refine sLq_eq (p := 29) rfl rfl rfl (fun c2 => ?_) (fun c2 => ?_)
      · have c2 := c2
        refine sInX (z := ((i : Nat) : Int)) (ls' := [some (.ref 179), some (.int (iI (((16 * i0 : Nat) : Int)))), some (.ref a), some (.int (iI ((o : Nat) : Int))), some (.int (iI (((i : Nat) : Int) + 1)))]) (p := 34) rfl rfl (Nat.le_of_ble_eq_true rfl) rfl rfl ?_
        refine sL (i := .goto (-31)) rfl rfl ?_
        refine sRo (ls := [some (.ref 179), some (.int (iI (((16 * i0 : Nat) : Int)))), some (.ref a), some (.int (iI ((o : Nat) : Int))), some (.int (iI ((i + 1 : Nat) : Int)))]) (T := _) (And.intro rfl (And.intro rfl (And.intro rfl (And.intro rfl (And.intro rfl (True.intro)))))) (rfl) (ih3 ?_)
        show (allB (fun k => decide (pkw t k = pkw f k)) i && decide (pkw t i = pkw f i)) = true
        rw [hI3, decide_eq_true (by assumption)]
        rfl
      · have c2 := c2
        refine sKi (p := 30) rfl rfl ?_
        refine sEn (i := .ireturn) rfl (rfl) ?_
        have hh : eqW t f = false := by
          cases e : eqW t f with
          | false => rfl
          | true => exact absurd (eqW_pk e (show i < 16 by omega)) (by assumption)
        exact ⟨by rw [hh]; rfl, rfl⟩
  · have hI3 := hI3
    refine sL (pc' := 5) (i := .iload 4) rfl rfl ?_
    refine sKb (p := 7) rfl rfl ?_
    refine sIc_ge (p := 10) rfl rfl ⟨by omega, by omega⟩ ⟨by omega, by omega⟩ (fun c3 => ?_) (fun c3 => ?_)
    · have c3 := c3
      refine sKi (p := 38) rfl rfl ?_
      refine sEn (i := .ireturn) rfl (rfl) ?_
      exact ⟨by unfold eqW; rw [hI3]; rfl, rfl⟩
    · exact absurd c3 (by decide)
end M6
