/-! ===== rules over memories ===== -/
def sT (X : List Int32) (d m pc : Nat) (ls : xx_L) (st : List Value) (S : ST) (K : Nat → xx_L → List Value → ST → Prop) : Prop := xv_T (xt_P X) d m pc ls st (sH S) (fun pc ls st h => ∃ T, h = sH T ∧ K pc ls st T)
def sE (X : List Int32) (m : Nat) (Q : Option Value → ST → Prop) : Nat → xx_L → List Value → ST → Prop := fun pc _ st S => ∃ e v, ((xt_P X).1 m).1 pc = some e ∧ xx_end e.1 ((xt_P X).1 m).2.2.2.1 st = some v ∧ Q v S
/-- a method on its arguments -/
def sM (X : List Int32) (d y : Nat) (as : List Value) (S : ST) (Q : Option Value → ST → Prop) : Prop := sT X d y 0 (xx_ent ((xt_P X).1 y).2.1 as) [] S (sE X y Q)
/-- it hands v back and leaves S' -/
def sV (v : Option Value) (S' : ST) : Option Value → ST → Prop := fun w T => w = v ∧ sH T = sH S'
def bI (b : Bool) : Int := if b then 1 else 0
theorem sM_xv {X : List Int32} {d y : Nat} {as : List Value} {S : ST} {Q : Option Value → ST → Prop} (h : sM X d y as S Q) : xv_M (xt_P X) d y as (sH S) (fun v h => ∃ T, h = sH T ∧ Q v T) := xv_T.weaken h (fun _ _ _ _ ⟨T, e1, e, v, h1, h2, h3⟩ => ⟨e, v, h1, h2, T, e1, h3⟩)
section SM
variable {X : List Int32} {d m pc p len q : Nat} {ns : Bool} {ls : xx_L} {st r : List Value} {S : ST} {K : Nat → xx_L → List Value → ST → Prop} {Q : Option Value → ST → Prop}
theorem sT.weaken {K' : Nat → xx_L → List Value → ST → Prop} (k : sT X d m pc ls st S K) (hq : ∀ pc ls st T, K pc ls st T → K' pc ls st T) : sT X d m pc ls st S K' := xv_T.weaken k (fun _ _ _ _ ⟨T, e, h⟩ => ⟨T, e, hq _ _ _ _ h⟩)
theorem sT.deeper {d' : Nat} (k : sT X d m pc ls st S K) (hd : d ≤ d') : sT X d' m pc ls st S K := xv_T.deeper k hd
theorem sM.weaken {y : Nat} {as : List Value} {Q' : Option Value → ST → Prop} (k : sM X d y as S Q) (hq : ∀ v T, Q v T → Q' v T) : sM X d y as S Q' := sT.weaken k (fun _ _ _ _ ⟨e, v, h1, h2, h3⟩ => ⟨e, v, h1, h2, hq _ _ h3⟩)
theorem sM.deeper {d' y : Nat} {as : List Value} (k : sM X d y as S Q) (hd : d ≤ d') : sM X d' y as S Q := sT.deeper k hd
theorem sHe (k : K pc ls st S) : sT X d m pc ls st S K := xv_here ⟨S, rfl, k⟩
theorem sSh {T : ST} (e : sH S = sH T) (k : sT X d m pc ls st T K) : sT X d m pc ls st S K := by
  unfold sT at k ⊢
  rw [e]
  exact k
theorem sL {i : Instr} {pc' : Nat} {ls' : xx_L} {st' : List Value} (he : ((xt_P X).1 m).1 pc = some (i, len, q, ns)) (hl : xx_loc i len q pc ls st = some (pc', ls', st')) (k : sT X d m pc' ls' st' S K) : sT X d m pc ls st S K := xv_loc he hl k

theorem sKi {n : Int} (he : ((xt_P X).1 m).1 pc = some (.iconst n, len, q, ns)) (hp : pc + len = p) (k : sT X d m p ls (.int (iI n) :: st) S K) : sT X d m pc ls st S K := by
  subst hp
  rw [← xk_eq] at k
  exact xv_loc he rfl k
theorem sKb {n : Int} (he : ((xt_P X).1 m).1 pc = some (.bipush n, len, q, ns)) (hp : pc + len = p) (k : sT X d m p ls (.int (iI n) :: st) S K) : sT X d m pc ls st S K := by
  subst hp
  rw [← xk_eq] at k
  exact xv_loc he rfl k
theorem sKs {n : Int} (he : ((xt_P X).1 m).1 pc = some (.sipush n, len, q, ns)) (hp : pc + len = p) (k : sT X d m p ls (.int (iI n) :: st) S K) : sT X d m pc ls st S K := by
  subst hp
  rw [← xk_eq] at k
  exact xv_loc he rfl k
theorem sKl {n : Nat} (he : ((xt_P X).1 m).1 pc = some (.ldc n, len, q, ns)) (hp : pc + len = p) (k : sT X d m p ls (.int (iI (q : Int)) :: st) S K) : sT X d m pc ls st S K := by
  subst hp
  rw [iI_nI] at k
  exact xv_loc he rfl k
theorem sAd {a b : Int} (he : ((xt_P X).1 m).1 pc = some (.iadd, len, q, ns)) (hp : pc + len = p) (k : sT X d m p ls (.int (iI (a + b)) :: r) S K) : sT X d m pc ls (.int (iI b) :: .int (iI a) :: r) S K := by
  subst hp
  rw [← iI_add] at k
  exact xv_loc he rfl k
theorem sSb {a b : Int} (he : ((xt_P X).1 m).1 pc = some (.isub, len, q, ns)) (hp : pc + len = p) (k : sT X d m p ls (.int (iI (a - b)) :: r) S K) : sT X d m pc ls (.int (iI b) :: .int (iI a) :: r) S K := by
  subst hp
  rw [← iI_sub] at k
  exact xv_loc he rfl k
theorem sMu {a b : Int} (he : ((xt_P X).1 m).1 pc = some (.imul, len, q, ns)) (hp : pc + len = p) (k : sT X d m p ls (.int (iI (a * b)) :: r) S K) : sT X d m pc ls (.int (iI b) :: .int (iI a) :: r) S K := by
  subst hp
  rw [← iI_mul] at k
  exact xv_loc he rfl k
theorem sNg {a : Int} (he : ((xt_P X).1 m).1 pc = some (.ineg, len, q, ns)) (hp : pc + len = p) (k : sT X d m p ls (.int (iI (- a)) :: r) S K) : sT X d m pc ls (.int (iI a) :: r) S K := by
  subst hp
  rw [← iI_neg] at k
  exact xv_loc he rfl k
theorem sDv {a b : Int} (he : ((xt_P X).1 m).1 pc = some (.idiv, len, q, ns)) (hp : pc + len = p) (ha : 0 ≤ a ∧ a < 2147483648) (hb : 0 < b ∧ b < 2147483648) (k : sT X d m p ls (.int (iI (a / b)) :: r) S K) : sT X d m pc ls (.int (iI b) :: .int (iI a) :: r) S K := by
  subst hp
  have hb0 : ¬ iI b = 0 := fun z => by
    have := (iI_eq (b := 0) ⟨by omega, hb.2⟩ ⟨by omega, by omega⟩).mp z
    omega
  rw [← iI_div ha.1 ha.2 hb.1 hb.2] at k
  exact xv_loc he (if_neg hb0) k
theorem sRm {a b : Int} (he : ((xt_P X).1 m).1 pc = some (.irem, len, q, ns)) (hp : pc + len = p) (ha : 0 ≤ a ∧ a < 2147483648) (hb : 0 < b ∧ b < 2147483648) (k : sT X d m p ls (.int (iI (a % b)) :: r) S K) : sT X d m pc ls (.int (iI b) :: .int (iI a) :: r) S K := by
  subst hp
  have hb0 : ¬ iI b = 0 := fun z => by
    have := (iI_eq (b := 0) ⟨by omega, hb.2⟩ ⟨by omega, by omega⟩).mp z
    omega
  have e : iI a - iI a / iI b * iI b = iI (a % b) := by
    rw [iI_div ha.1 ha.2 hb.1 hb.2, iI_mul, iI_sub, Int.emod_def, Int.mul_comm]
  rw [← e] at k
  exact xv_loc he (if_neg hb0) k
theorem sIn {j : Nat} {n z : Int} (he : ((xt_P X).1 m).1 pc = some (.iinc j n, len, q, ns)) (hp : pc + len = p) (hj : j < ls.length) (hz : ls[j]? = some (some (.int (iI z)))) (k : sT X d m p (xx_set1 ls j (.int (iI (z + n)))) st S K) : sT X d m pc ls st S K := by
  subst hp
  rw [← iI_add] at k
  refine xv_loc he ?_ k
  show (if j < ls.length then xx_ldi ls j _ else none) = _
  rw [if_pos hj]
  unfold xx_ldi
  rw [hz]
  rfl
theorem sIf_lt {o z : Int} (he : ((xt_P X).1 m).1 pc = some (.ifCond .lt o, len, q, ns)) (hp : pc + len = p) (hz : rg z) (kt : z < 0 → sT X d m q ls r S K) (kf : 0 ≤ z → sT X d m p ls r S K) : sT X d m pc ls (.int (iI z) :: r) S K := by
  subst hp
  have hw := iI_lt hz (⟨by omega, by omega⟩ : rg 0)
  refine xv_ifc he (fun c => kt (hw.mp (of_decide_eq_true c))) (fun c => kf ?_)
  have c := fun y => of_decide_eq_false c (hw.mpr y)
  exact Int.not_lt.mp (c)
theorem sIc_lt {o a b : Int} (he : ((xt_P X).1 m).1 pc = some (.if_icmp .lt o, len, q, ns)) (hp : pc + len = p) (ha : rg a) (hb : rg b) (kt : a < b → sT X d m q ls r S K) (kf : b ≤ a → sT X d m p ls r S K) : sT X d m pc ls (.int (iI b) :: .int (iI a) :: r) S K := by
  subst hp
  have hw := iI_lt ha hb
  refine xv_icmp he (fun c => kt (hw.mp (of_decide_eq_true c))) (fun c => kf ?_)
  have c := fun y => of_decide_eq_false c (hw.mpr y)
  exact Int.not_lt.mp (c)
theorem sIf_ge {o z : Int} (he : ((xt_P X).1 m).1 pc = some (.ifCond .ge o, len, q, ns)) (hp : pc + len = p) (hz : rg z) (kt : 0 ≤ z → sT X d m q ls r S K) (kf : z < 0 → sT X d m p ls r S K) : sT X d m pc ls (.int (iI z) :: r) S K := by
  subst hp
  have hw := iI_le (⟨by omega, by omega⟩ : rg 0) hz
  refine xv_ifc he (fun c => kt (hw.mp (of_decide_eq_true c))) (fun c => kf ?_)
  have c := fun y => of_decide_eq_false c (hw.mpr y)
  exact Int.not_le.mp (c)
theorem sIc_ge {o a b : Int} (he : ((xt_P X).1 m).1 pc = some (.if_icmp .ge o, len, q, ns)) (hp : pc + len = p) (ha : rg a) (hb : rg b) (kt : b ≤ a → sT X d m q ls r S K) (kf : a < b → sT X d m p ls r S K) : sT X d m pc ls (.int (iI b) :: .int (iI a) :: r) S K := by
  subst hp
  have hw := iI_le hb ha
  refine xv_icmp he (fun c => kt (hw.mp (of_decide_eq_true c))) (fun c => kf ?_)
  have c := fun y => of_decide_eq_false c (hw.mpr y)
  exact Int.not_le.mp (c)
theorem sIf_gt {o z : Int} (he : ((xt_P X).1 m).1 pc = some (.ifCond .gt o, len, q, ns)) (hp : pc + len = p) (hz : rg z) (kt : 0 < z → sT X d m q ls r S K) (kf : z ≤ 0 → sT X d m p ls r S K) : sT X d m pc ls (.int (iI z) :: r) S K := by
  subst hp
  have hw := iI_lt (⟨by omega, by omega⟩ : rg 0) hz
  refine xv_ifc he (fun c => kt (hw.mp (of_decide_eq_true c))) (fun c => kf ?_)
  have c := fun y => of_decide_eq_false c (hw.mpr y)
  exact Int.not_lt.mp (c)
theorem sIc_gt {o a b : Int} (he : ((xt_P X).1 m).1 pc = some (.if_icmp .gt o, len, q, ns)) (hp : pc + len = p) (ha : rg a) (hb : rg b) (kt : b < a → sT X d m q ls r S K) (kf : a ≤ b → sT X d m p ls r S K) : sT X d m pc ls (.int (iI b) :: .int (iI a) :: r) S K := by
  subst hp
  have hw := iI_lt hb ha
  refine xv_icmp he (fun c => kt (hw.mp (of_decide_eq_true c))) (fun c => kf ?_)
  have c := fun y => of_decide_eq_false c (hw.mpr y)
  exact Int.not_lt.mp (c)
theorem sIf_le {o z : Int} (he : ((xt_P X).1 m).1 pc = some (.ifCond .le o, len, q, ns)) (hp : pc + len = p) (hz : rg z) (kt : z ≤ 0 → sT X d m q ls r S K) (kf : 0 < z → sT X d m p ls r S K) : sT X d m pc ls (.int (iI z) :: r) S K := by
  subst hp
  have hw := iI_le hz (⟨by omega, by omega⟩ : rg 0)
  refine xv_ifc he (fun c => kt (hw.mp (of_decide_eq_true c))) (fun c => kf ?_)
  have c := fun y => of_decide_eq_false c (hw.mpr y)
  exact Int.not_le.mp (c)
theorem sIc_le {o a b : Int} (he : ((xt_P X).1 m).1 pc = some (.if_icmp .le o, len, q, ns)) (hp : pc + len = p) (ha : rg a) (hb : rg b) (kt : a ≤ b → sT X d m q ls r S K) (kf : b < a → sT X d m p ls r S K) : sT X d m pc ls (.int (iI b) :: .int (iI a) :: r) S K := by
  subst hp
  have hw := iI_le ha hb
  refine xv_icmp he (fun c => kt (hw.mp (of_decide_eq_true c))) (fun c => kf ?_)
  have c := fun y => of_decide_eq_false c (hw.mpr y)
  exact Int.not_le.mp (c)
theorem sIf_eq {o z : Int} (he : ((xt_P X).1 m).1 pc = some (.ifCond .eq o, len, q, ns)) (hp : pc + len = p) (hz : rg z) (kt : z = 0 → sT X d m q ls r S K) (kf : ¬ z = 0 → sT X d m p ls r S K) : sT X d m pc ls (.int (iI z) :: r) S K := by
  subst hp
  have hw := iI_eq hz (⟨by omega, by omega⟩ : rg 0)
  refine xv_ifc he (fun c => kt (hw.mp (of_decide_eq_true c))) (fun c => kf ?_)
  have c := fun y => of_decide_eq_false c (hw.mpr y)
  exact c
theorem sIc_eq {o a b : Int} (he : ((xt_P X).1 m).1 pc = some (.if_icmp .eq o, len, q, ns)) (hp : pc + len = p) (ha : rg a) (hb : rg b) (kt : a = b → sT X d m q ls r S K) (kf : ¬ a = b → sT X d m p ls r S K) : sT X d m pc ls (.int (iI b) :: .int (iI a) :: r) S K := by
  subst hp
  have hw := iI_eq ha hb
  refine xv_icmp he (fun c => kt (hw.mp (of_decide_eq_true c))) (fun c => kf ?_)
  have c := fun y => of_decide_eq_false c (hw.mpr y)
  exact c
theorem sIf_ne {o z : Int} (he : ((xt_P X).1 m).1 pc = some (.ifCond .ne o, len, q, ns)) (hp : pc + len = p) (hz : rg z) (kt : ¬ z = 0 → sT X d m q ls r S K) (kf : z = 0 → sT X d m p ls r S K) : sT X d m pc ls (.int (iI z) :: r) S K := by
  subst hp
  have hw := not_congr (iI_eq hz (⟨by omega, by omega⟩ : rg 0))
  refine xv_ifc he (fun c => kt (hw.mp (of_decide_eq_true c))) (fun c => kf ?_)
  have c := fun y => of_decide_eq_false c (hw.mpr y)
  exact Classical.not_not.mp (c)
theorem sIc_ne {o a b : Int} (he : ((xt_P X).1 m).1 pc = some (.if_icmp .ne o, len, q, ns)) (hp : pc + len = p) (ha : rg a) (hb : rg b) (kt : ¬ a = b → sT X d m q ls r S K) (kf : a = b → sT X d m p ls r S K) : sT X d m pc ls (.int (iI b) :: .int (iI a) :: r) S K := by
  subst hp
  have hw := not_congr (iI_eq ha hb)
  refine xv_icmp he (fun c => kt (hw.mp (of_decide_eq_true c))) (fun c => kf ?_)
  have c := fun y => of_decide_eq_false c (hw.mpr y)
  exact Classical.not_not.mp (c)
theorem rg_bI (b : Bool) : rg (bI b) := by cases b <;> exact ⟨by decide, by decide⟩
theorem sBe {o : Int} {b : Bool} (he : ((xt_P X).1 m).1 pc = some (.ifCond .eq o, len, q, ns)) (hp : pc + len = p) (kt : b = false → sT X d m q ls r S K) (kf : b = true → sT X d m p ls r S K) : sT X d m pc ls (.int (iI (bI b)) :: r) S K := by
  refine sIf_eq he hp (rg_bI b) (fun c => kt ?_) (fun c => kf ?_)
  · cases b
    · rfl
    · cases c
  · cases b
    · exact absurd rfl c
    · rfl
theorem sBn {o : Int} {b : Bool} (he : ((xt_P X).1 m).1 pc = some (.ifCond .ne o, len, q, ns)) (hp : pc + len = p) (kt : b = true → sT X d m q ls r S K) (kf : b = false → sT X d m p ls r S K) : sT X d m pc ls (.int (iI (bI b)) :: r) S K := by
  refine sIf_ne he hp (rg_bI b) (fun c => kt ?_) (fun c => kf ?_)
  · cases b
    · exact absurd rfl c
    · rfl
  · cases b
    · rfl
    · cases c
theorem sh_ob {a c : Nat} {fs : List Nat} (hk : kd S a = some (.inr (.inr (c, fs)))) : (sH S)[a]? = some (.inr (c, fs.mapIdx fun i f => sF (SI S a) (SL S a) (SR S a) i f)) := by
  rw [sh_get, hk]
  rfl
theorem sh_fs {a f g : Nat} {fs : List Nat} (hf : fs[f]? = some g) : (fs.mapIdx fun i f => sF (SI S a) (SL S a) (SR S a) i f)[f]? = some (sF (SI S a) (SL S a) (SR S a) f g) := by
  rw [List.getElem?_mapIdx, hf]
  rfl
theorem sGet {k a c f g : Nat} {fs : List Nat} (he : ((xt_P X).1 m).1 pc = some (.getfield k, len, q, ns)) (hp : pc + len = p) (hk : kd S a = some (.inr (.inr (c, fs)))) (hc : q / 64 = c) (hq : q % 64 = f) (hf : fs[f]? = some g) (kk : sT X d m p ls (sF (SI S a) (SL S a) (SR S a) f g :: r) S K) : sT X d m pc ls (.ref a :: r) S K := by
  subst hp
  exact xv_get he (sh_ob hk) hc.symm (by rw [hq]; exact sh_fs hf) kk
theorem sGi {k a c f : Nat} {z : Int} {fs : List Nat} (he : ((xt_P X).1 m).1 pc = some (.getfield k, len, q, ns)) (hp : pc + len = p) (hk : kd S a = some (.inr (.inr (c, fs)))) (hc : q / 64 = c) (hq : q % 64 = f) (hf : fs[f]? = some 0) (hz : SI S a f = z) (kk : sT X d m p ls (.int (iI z) :: r) S K) : sT X d m pc ls (.ref a :: r) S K := by
  subst hz
  exact sGet he hp hk hc hq hf kk
theorem sGl {k a c f : Nat} {z : Int64} {fs : List Nat} (he : ((xt_P X).1 m).1 pc = some (.getfield k, len, q, ns)) (hp : pc + len = p) (hk : kd S a = some (.inr (.inr (c, fs)))) (hc : q / 64 = c) (hq : q % 64 = f) (hf : fs[f]? = some 1) (hz : SL S a f = z) (kk : sT X d m p ls (.long z :: r) S K) : sT X d m pc ls (.ref a :: r) S K := by
  subst hz
  exact sGet he hp hk hc hq hf kk
theorem sGr {k a c f z : Nat} {fs : List Nat} (he : ((xt_P X).1 m).1 pc = some (.getfield k, len, q, ns)) (hp : pc + len = p) (hk : kd S a = some (.inr (.inr (c, fs)))) (hc : q / 64 = c) (hq : q % 64 = f) (hf : fs[f]? = some 2) (hz : SR S a f = z) (kk : sT X d m p ls (.ref z :: r) S K) : sT X d m pc ls (.ref a :: r) S K := by
  subst hz
  exact sGet he hp hk hc hq hf kk
theorem sGc {k a c f z : Nat} {fs : List Nat} (he : ((xt_P X).1 m).1 pc = some (.getfield k, len, q, ns)) (hp : pc + len = p) (hk : kd S a = some (.inr (.inr (c, fs)))) (hc : q / 64 = c) (hq : q % 64 = f) (hf : fs[f]? = some (z + 3)) (kk : sT X d m p ls (.ref z :: r) S K) : sT X d m pc ls (.ref a :: r) S K := sGet he hp hk hc hq hf kk
theorem sPut {T : ST} {v : Value} {k a c f g : Nat} {fs : List Nat} (he : ((xt_P X).1 m).1 pc = some (.putfield k, len, q, ns)) (hp : pc + len = p) (hk : kd S a = some (.inr (.inr (c, fs)))) (hc : q / 64 = c) (hq : q % 64 = f) (hf : fs[f]? = some g) (hy : (((xt_F c)[f]?).any fun ty => xx_fit ty v) = true) (h1 : T.1 = S.1) (hI : ∀ b, b ≠ a → SI T b = SI S b) (hL : ∀ b, b ≠ a → SL T b = SL S b) (hR : ∀ b, b ≠ a → SR T b = SR S b) (hv : v = sF (SI T a) (SL T a) (SR T a) f g) (ho : ∀ j g, j ≠ f → sF (SI T a) (SL T a) (SR T a) j g = sF (SI S a) (SL S a) (SR S a) j g) (kk : sT X d m p ls r T K) : sT X d m pc ls (v :: .ref a :: r) S K := by
  subst hp
  subst hc
  subst hq
  have hl : q % 64 < fs.length := (List.getElem?_eq_some_iff.mp hf).1
  have e := sh_fld hk h1 hI hL hR hl (fun g' hg => by rw [hf] at hg; cases hg; exact hv) ho
  refine xv_hp he (st' := r) (h1 := sH T) ?_ kk
  show xx_ob (sH S) a _ = _
  unfold xx_ob
  rw [sh_ob hk]
  dsimp only
  rw [if_pos ⟨rfl, by rw [List.length_mapIdx]; exact hl, hy⟩, e]
theorem sF_i {I : Nat → Int} {L : Nat → Int64} {R : Nat → Nat} {f j g : Nat} {z : Int} (h : j ≠ f) : sF (fun j => if j = f then z else I j) L R j g = sF I L R j g := by
  unfold sF
  split
  · dsimp only
    rw [if_neg h]
  all_goals rfl
theorem sF_l {I : Nat → Int} {L : Nat → Int64} {R : Nat → Nat} {f j g : Nat} {z : Int64} (h : j ≠ f) : sF I (fun j => if j = f then z else L j) R j g = sF I L R j g := by
  unfold sF
  split
  · rfl
  · dsimp only
    rw [if_neg h]
  all_goals rfl
theorem sF_r {I : Nat → Int} {L : Nat → Int64} {R : Nat → Nat} {f j g : Nat} {z : Nat} (h : j ≠ f) : sF I L (fun j => if j = f then z else R j) j g = sF I L R j g := by
  unfold sF
  split
  · rfl
  · rfl
  · dsimp only
    rw [if_neg h]
  · rfl
theorem sPi {k a c f : Nat} {z : Int} {fs : List Nat} (he : ((xt_P X).1 m).1 pc = some (.putfield k, len, q, ns)) (hp : pc + len = p) (hk : kd S a = some (.inr (.inr (c, fs)))) (hc : q / 64 = c) (hq : q % 64 = f) (hf : fs[f]? = some 0) (hy : (xt_F c)[f]? = some .int) (kk : sT X d m p ls r (wI S a f z) K) : sT X d m pc ls (.int (iI z) :: .ref a :: r) S K := by
  refine sPut (T := wI S a f z) he hp hk hc hq hf (by rw [hy]; rfl) rfl (fun b hb => u2_ne hb) (fun b hb => rfl) (fun b hb => rfl) ?_ (fun j g hj => ?_) kk
  · show _ = sF (u2 (SI S) a f z a) _ _ f 0
    rw [u2_eq]
    show _ = Value.int (iI (if f = f then z else _))
    rw [if_pos rfl]
  · show sF (u2 (SI S) a f z a) _ _ j g = _
    rw [u2_eq]
    exact sF_i hj
theorem sPz {k a c f : Nat} {b : Bool} {fs : List Nat} (he : ((xt_P X).1 m).1 pc = some (.putfield k, len, q, ns)) (hp : pc + len = p) (hk : kd S a = some (.inr (.inr (c, fs)))) (hc : q / 64 = c) (hq : q % 64 = f) (hf : fs[f]? = some 0) (hy : (xt_F c)[f]? = some .boolean) (kk : sT X d m p ls r (wI S a f (bI b)) K) : sT X d m pc ls (.int (iI (bI b)) :: .ref a :: r) S K := by
  refine sPut (T := wI S a f (bI b)) he hp hk hc hq hf (by rw [hy]; cases b <;> rfl) rfl (fun b hb => u2_ne hb) (fun b hb => rfl) (fun b hb => rfl) ?_ (fun j g hj => ?_) kk
  · show _ = sF (u2 (SI S) a f (bI b) a) _ _ f 0
    rw [u2_eq]
    show _ = Value.int (iI (if f = f then bI b else _))
    rw [if_pos rfl]
  · show sF (u2 (SI S) a f (bI b) a) _ _ j g = _
    rw [u2_eq]
    exact sF_i hj
theorem sPl {k a c f : Nat} {z : Int64} {fs : List Nat} (he : ((xt_P X).1 m).1 pc = some (.putfield k, len, q, ns)) (hp : pc + len = p) (hk : kd S a = some (.inr (.inr (c, fs)))) (hc : q / 64 = c) (hq : q % 64 = f) (hf : fs[f]? = some 1) (hy : (xt_F c)[f]? = some .long) (kk : sT X d m p ls r (wL S a f z) K) : sT X d m pc ls (.long z :: .ref a :: r) S K := by
  refine sPut (T := wL S a f z) he hp hk hc hq hf (by rw [hy]; rfl) rfl (fun b hb => rfl) (fun b hb => u2_ne hb) (fun b hb => rfl) ?_ (fun j g hj => ?_) kk
  · show _ = sF _ (u2 (SL S) a f z a) _ f 1
    rw [u2_eq]
    show _ = Value.long (if f = f then z else _)
    rw [if_pos rfl]
  · show sF _ (u2 (SL S) a f z a) _ j g = _
    rw [u2_eq]
    exact sF_l hj
theorem sPr {k a c f z : Nat} {fs : List Nat} (he : ((xt_P X).1 m).1 pc = some (.putfield k, len, q, ns)) (hp : pc + len = p) (hk : kd S a = some (.inr (.inr (c, fs)))) (hc : q / 64 = c) (hq : q % 64 = f) (hf : fs[f]? = some 2) (hy : ∀ z, (((xt_F c)[f]?).any fun ty => xx_fit ty (.ref z)) = true) (kk : sT X d m p ls r (wR S a f z) K) : sT X d m pc ls (.ref z :: .ref a :: r) S K := by
  refine sPut (T := wR S a f z) he hp hk hc hq hf (hy z) rfl (fun b hb => rfl) (fun b hb => rfl) (fun b hb => u2_ne hb) ?_ (fun j g hj => ?_) kk
  · show _ = sF _ _ (u2 (SR S) a f z a) f 2
    rw [u2_eq]
    show _ = Value.ref (if f = f then z else _)
    rw [if_pos rfl]
  · show sF _ _ (u2 (SR S) a f z a) j g = _
    rw [u2_eq]
    exact sF_r hj
theorem sh_ai {a t n : Nat} (hk : kd S a = some (.inl (t, n))) (ht : t ≠ 2) : (sH S)[a]? = some (.inl (t, .inl ((List.range n).map fun i => iI (SI S a i)))) := by
  rw [sh_get, hk]
  exact congrArg some (if_neg ht)
theorem sh_al {a n : Nat} (hk : kd S a = some (.inl (2, n))) : (sH S)[a]? = some (.inl (2, .inr (.inl ((List.range n).map (SL S a))))) := by
  rw [sh_get, hk]
  rfl
theorem mr_get {α : Type} {n i : Nat} {f : Nat → α} (hi : i < n) : ((List.range n).map f)[i]? = some (f i) := by
  rw [List.getElem?_map, List.getElem?_range hi]
  rfl
theorem sAi {a n i : Nat} {z y : Int} (he : ((xt_P X).1 m).1 pc = some (.iaload, len, q, ns)) (hp : pc + len = p) (hk : kd S a = some (.inl (0, n))) (hz : z = (i : Int)) (hi : i < n ∧ i < 2147483648) (hy : SI S a i = y) (kk : sT X d m p ls (.int (iI y) :: r) S K) : sT X d m pc ls (.int (iI z) :: .ref a :: r) S K := by
  subst hp hz hy
  exact xv_iald he (sh_ai hk (by decide)) (by rw [xx_at_iI hi.2]; exact mr_get hi.1) kk
theorem sAb {a t n i : Nat} {z y : Int} (he : ((xt_P X).1 m).1 pc = some (.baload, len, q, ns)) (hp : pc + len = p) (hk : kd S a = some (.inl (t, n))) (ht : t = 1 ∨ t = 3) (hz : z = (i : Int)) (hi : i < n ∧ i < 2147483648) (hy : SI S a i = y) (kk : sT X d m p ls (.int (iI y) :: r) S K) : sT X d m pc ls (.int (iI z) :: .ref a :: r) S K := by
  subst hp hz hy
  exact xv_bald he (sh_ai hk (by omega)) ht (by rw [xx_at_iI hi.2]; exact mr_get hi.1) kk
theorem sAl {a n i : Nat} {z : Int} {y : Int64} (he : ((xt_P X).1 m).1 pc = some (.laload, len, q, ns)) (hp : pc + len = p) (hk : kd S a = some (.inl (2, n))) (hz : z = (i : Int)) (hi : i < n ∧ i < 2147483648) (hy : SL S a i = y) (kk : sT X d m p ls (.long y :: r) S K) : sT X d m pc ls (.int (iI z) :: .ref a :: r) S K := by
  subst hp hz hy
  exact xv_lald he (sh_al hk) (by rw [xx_at_iI hi.2]; exact mr_get hi.1) kk
theorem sAa {a i b : Nat} {z : Int} {l : List (Option Nat)} (he : ((xt_P X).1 m).1 pc = some (.aaload, len, q, ns)) (hp : pc + len = p) (hk : kd S a = some (.inr (.inl l))) (hz : z = (i : Int)) (hi : i < 2147483648) (hb : l[i]? = some (some b)) (kk : sT X d m p ls (.ref b :: r) S K) : sT X d m pc ls (.int (iI z) :: .ref a :: r) S K := by
  subst hp hz
  exact xv_aald he (by rw [sh_get, hk]; rfl) (by rw [xx_at_iI hi]; exact hb) kk
theorem sWi {a n i : Nat} {z y : Int} (he : ((xt_P X).1 m).1 pc = some (.iastore, len, q, ns)) (hp : pc + len = p) (hk : kd S a = some (.inl (0, n))) (hz : z = (i : Int)) (hi : i < n ∧ i < 2147483648) (kk : sT X d m p ls r (wI S a i y) K) : sT X d m pc ls (.int (iI y) :: .int (iI z) :: .ref a :: r) S K := by
  subst hp hz
  refine xv_iast he (sh_ai hk (by decide)) (xx_put_iI (by rw [List.length_map, List.length_range]; exact hi.1) hi.2) ?_
  rw [sh_int hk (by decide)]
  exact kk
theorem sWz {a n i : Nat} {z : Int} {b : Bool} (he : ((xt_P X).1 m).1 pc = some (.bastore, len, q, ns)) (hp : pc + len = p) (hk : kd S a = some (.inl (1, n))) (hz : z = (i : Int)) (hi : i < n ∧ i < 2147483648) (kk : sT X d m p ls r (wI S a i (bI b)) K) : sT X d m pc ls (.int (iI (bI b)) :: .int (iI z) :: .ref a :: r) S K := by
  subst hp hz
  refine xv_zast he (sh_ai hk (by decide)) (xx_put_iI (by rw [List.length_map, List.length_range]; exact hi.1) hi.2) ?_
  have e : vp_nar .boolean (iI (bI b)) = iI (bI b) := by cases b <;> decide
  rw [e, sh_int hk (by decide)]
  exact kk
theorem sWl {a n i : Nat} {z : Int} {y : Int64} (he : ((xt_P X).1 m).1 pc = some (.lastore, len, q, ns)) (hp : pc + len = p) (hk : kd S a = some (.inl (2, n))) (hz : z = (i : Int)) (hi : i < n ∧ i < 2147483648) (kk : sT X d m p ls r (wL S a i y) K) : sT X d m pc ls (.long y :: .int (iI z) :: .ref a :: r) S K := by
  subst hp hz
  refine xv_last he (sh_al hk) (xx_put_iI (by rw [List.length_map, List.length_range]; exact hi.1) hi.2) ?_
  rw [sh_long hk]
  exact kk
theorem sLn {a t n : Nat} (he : ((xt_P X).1 m).1 pc = some (.arraylength, len, q, ns)) (hp : pc + len = p) (hk : kd S a = some (.inl (t, n))) (ht : t < 4) (kk : sT X d m p ls (.int (iI (n : Int)) :: r) S K) : sT X d m pc ls (.ref a :: r) S K := by
  subst hp
  rw [iI_nI] at kk
  by_cases h2 : t = 2
  · subst h2
    have e : xx_cl (.inr (.inl ((List.range n).map (SL S a)))) = n := by
      show List.length _ = _
      rw [List.length_map, List.length_range]
    exact xv_alen he (sh_al hk) (by decide) (by rw [e]; exact kk)
  · have e : xx_cl (.inl ((List.range n).map fun i => iI (SI S a i))) = n := by
      show List.length _ = _
      rw [List.length_map, List.length_range]
    exact xv_alen he (sh_ai hk h2) (by omega) (by rw [e]; exact kk)
theorem sEn {i : Instr} {v : Option Value} (he : ((xt_P X).1 m).1 pc = some (i, len, q, ns)) (hl : xx_end i ((xt_P X).1 m).2.2.2.1 st = some v) (k : Q v S) : sT X d m pc ls st S (sE X m Q) := sHe ⟨_, v, he, hl, k⟩
theorem sEz {b : Bool} (he : ((xt_P X).1 m).1 pc = some (.ireturn, len, q, ns)) (hr : ((xt_P X).1 m).2.2.2.1 = some .boolean) (k : Q (some (.int (iI (bI b)))) S) : sT X d m pc ls [.int (iI (bI b))] S (sE X m Q) := by
  refine sEn he ?_ k
  rw [hr]
  cases b <;> rfl
/-- a loop: N rounds -/
theorem sIt {A : Nat → xx_L} {B : Nat → ST} (I : Nat → Prop) (N : Nat) (h0 : I 0) (step : ∀ i, i < N → I i → (I (i + 1) → sT X d m pc (A (i + 1)) st (B (i + 1)) K) → sT X d m pc (A i) st (B i) K) (fin : I N → sT X d m pc (A N) st (B N) K) : sT X d m pc (A 0) st (B 0) K := by
  have go : ∀ j i, i + j = N → I i → sT X d m pc (A i) st (B i) K := by
    intro j
    induction j with
    | zero =>
      intro i hi hI
      have : i = N := by omega
      subst this
      exact fin hI
    | succ j ih =>
      intro i hi hI
      exact step i (by omega) hI (fun h => ih (i + 1) (by omega) h)
  exact go N 0 (by omega) h0
end SM
section SC
variable {X : List Int32} {d d0 m pc p len q : Nat} {ns : Bool} {ls : xx_L} {st : List Value} {S : ST} {K : Nat → xx_L → List Value → ST → Prop} {Q1 : Option Value → ST → Prop}
/-- calls: any end; an end that is known -/
theorem sCvQ {k a c : Nat} {as rest : List Value} {fs : List Nat} (he : ((xt_P X).1 m).1 pc = some (.invokevirtual k, len, q, ns)) (hp : pc + len = p) (hst : st = as.reverse ++ .ref a :: rest) (hn : ((xt_P X).1 q).2.2.1 = as.length + 1) (hq : 10 ≤ q) (h8 : (rest.map Value.category).sum ≤ 8) (hsc : as.any xx_sc = false) (hfl : (xx_flat (.ref a :: as)).length ≤ ((xt_P X).1 q).2.1) (hk : kd S a = some (.inr (.inr (c, fs)))) (hc : ((xt_P X).1 q).2.2.2.2 = c + 1) (hd : d0 < d) (k1 : sM X d0 q (.ref a :: as) S Q1) (kk : ∀ v T, Q1 v T → sT X d m p ls (v.toList ++ rest) T K) : sT X d m pc ls st S K := by
  subst hp
  obtain ⟨e, rfl⟩ : ∃ e, d = e + 1 := ⟨d - 1, by omega⟩
  refine xv_cV he hst hn hq h8 hsc hfl (sh_ob hk) hc (xv_M.deeper (sM_xv k1) (by omega)) ?_
  rintro v _ ⟨T, rfl, h⟩
  exact kk v T h
theorem sCiQ {k a c : Nat} {as rest : List Value} {fs : List Nat} (he : ((xt_P X).1 m).1 pc = some (.invokespecial k, len, q, ns)) (hp : pc + len = p) (hst : st = as.reverse ++ .ref a :: rest) (hn : ((xt_P X).1 q).2.2.1 = as.length + 1) (hq : 10 ≤ q) (h8 : (rest.map Value.category).sum ≤ 8) (hsc : as.any xx_sc = false) (hfl : (xx_flat (.ref a :: as)).length ≤ ((xt_P X).1 q).2.1) (hk : kd S a = some (.inr (.inr (c, fs)))) (hc : ((xt_P X).1 q).2.2.2.2 ≠ 0) (hd : d0 < d) (k1 : sM X d0 q (.ref a :: as) S Q1) (kk : ∀ v T, Q1 v T → sT X d m p ls (v.toList ++ rest) T K) : sT X d m pc ls st S K := by
  subst hp
  obtain ⟨e, rfl⟩ : ∃ e, d = e + 1 := ⟨d - 1, by omega⟩
  refine xv_cI he hst hn hq h8 hsc hfl (sh_ob hk) hc (xv_M.deeper (sM_xv k1) (by omega)) ?_
  rintro v _ ⟨T, rfl, h⟩
  exact kk v T h
theorem sCsQ {k : Nat} {as rest : List Value} (he : ((xt_P X).1 m).1 pc = some (.invokestatic k, len, q, ns)) (hp : pc + len = p) (hst : st = as.reverse ++ rest) (hn : ((xt_P X).1 q).2.2.1 = as.length) (hq : 10 ≤ q) (h8 : (rest.map Value.category).sum ≤ 8) (hsc : as.any xx_sc = false) (hfl : (xx_flat as).length ≤ ((xt_P X).1 q).2.1) (hc : ((xt_P X).1 q).2.2.2.2 = 0) (hd : d0 < d) (k1 : sM X d0 q as S Q1) (kk : ∀ v T, Q1 v T → sT X d m p ls (v.toList ++ rest) T K) : sT X d m pc ls st S K := by
  subst hp
  obtain ⟨e, rfl⟩ : ∃ e, d = e + 1 := ⟨d - 1, by omega⟩
  refine xv_cS he hst hn hq h8 hsc hfl hc (xv_M.deeper (sM_xv k1) (by omega)) ?_
  rintro v _ ⟨T, rfl, h⟩
  exact kk v T h
theorem sCv {k a c : Nat} {as rest : List Value} {fs : List Nat} {v : Option Value} {S' : ST} (he : ((xt_P X).1 m).1 pc = some (.invokevirtual k, len, q, ns)) (hp : pc + len = p) (hst : st = as.reverse ++ .ref a :: rest) (hn : ((xt_P X).1 q).2.2.1 = as.length + 1) (hq : 10 ≤ q) (h8 : (rest.map Value.category).sum ≤ 8) (hsc : as.any xx_sc = false) (hfl : (xx_flat (.ref a :: as)).length ≤ ((xt_P X).1 q).2.1) (hk : kd S a = some (.inr (.inr (c, fs)))) (hc : ((xt_P X).1 q).2.2.2.2 = c + 1) (hd : d0 < d) (k1 : sM X d0 q (.ref a :: as) S (sV v S')) (kk : sT X d m p ls (v.toList ++ rest) S' K) : sT X d m pc ls st S K := by
  refine sCvQ he hp hst hn hq h8 hsc hfl hk hc hd k1 ?_
  rintro _ T ⟨rfl, e⟩
  exact sSh e kk
theorem sCi {k a c : Nat} {as rest : List Value} {fs : List Nat} {v : Option Value} {S' : ST} (he : ((xt_P X).1 m).1 pc = some (.invokespecial k, len, q, ns)) (hp : pc + len = p) (hst : st = as.reverse ++ .ref a :: rest) (hn : ((xt_P X).1 q).2.2.1 = as.length + 1) (hq : 10 ≤ q) (h8 : (rest.map Value.category).sum ≤ 8) (hsc : as.any xx_sc = false) (hfl : (xx_flat (.ref a :: as)).length ≤ ((xt_P X).1 q).2.1) (hk : kd S a = some (.inr (.inr (c, fs)))) (hc : ((xt_P X).1 q).2.2.2.2 ≠ 0) (hd : d0 < d) (k1 : sM X d0 q (.ref a :: as) S (sV v S')) (kk : sT X d m p ls (v.toList ++ rest) S' K) : sT X d m pc ls st S K := by
  refine sCiQ he hp hst hn hq h8 hsc hfl hk hc hd k1 ?_
  rintro _ T ⟨rfl, e⟩
  exact sSh e kk
theorem sCs {k : Nat} {as rest : List Value} {v : Option Value} {S' : ST} (he : ((xt_P X).1 m).1 pc = some (.invokestatic k, len, q, ns)) (hp : pc + len = p) (hst : st = as.reverse ++ rest) (hn : ((xt_P X).1 q).2.2.1 = as.length) (hq : 10 ≤ q) (h8 : (rest.map Value.category).sum ≤ 8) (hsc : as.any xx_sc = false) (hfl : (xx_flat as).length ≤ ((xt_P X).1 q).2.1) (hc : ((xt_P X).1 q).2.2.2.2 = 0) (hd : d0 < d) (k1 : sM X d0 q as S (sV v S')) (kk : sT X d m p ls (v.toList ++ rest) S' K) : sT X d m pc ls st S K := by
  refine sCsQ he hp hst hn hq h8 hsc hfl hc hd k1 ?_
  rintro _ T ⟨rfl, e⟩
  exact sSh e kk
end SC
