/-! ===== the law's rounds ===== -/
section LA
variable {X : List Int32} {d m pc p len q : Nat} {ns : Bool} {ls : xx_L} {r : List Value} {S : ST} {K : Nat → xx_L → List Value → ST → Prop}
/-- a place of the script -/
theorem sSa {j : Nat} {z zz : Int} (he : ((xt_P X).1 m).1 pc = some (.iaload, len, q, ns)) (hp : pc + len = p) (hz : z = ((j : Nat) : Int)) (hj : j < X.length ∧ j < 2147483648) (hx : (X.getD j 0).toInt = zz) (kk : sT X d m p ls (.int (iI zz) :: r) S K) : sT X d m pc ls (.int (iI z) :: .retAddr 0 :: r) S K := by
  subst hp hz hx
  rw [iI_of] at kk
  refine xv_sald he ?_ kk
  show xx_at X _ = _
  rw [xx_at_iI hj.2, List.getD_eq_getElem?_getD, List.getElem?_eq_getElem hj.1]
  rfl
/-- the two answers are one -/
theorem sCmpEq {a : Int32} {o : Int} (he : ((xt_P X).1 m).1 pc = some (.if_icmp .eq o, len, q, ns)) (kk : sT X d m q ls r S K) : sT X d m pc ls (.int a :: .int a :: r) S K := xv_icmp he (fun _ => kk) (fun c => by
  have : xx_cmp .eq a a = true := decide_eq_true rfl
  rw [this] at c
  cases c)
end LA
section LB
variable {X : List Int32} {S : ST} {k : Nat} {K : Nat → xx_L → List Value → ST → Prop}
theorem tI_rg (x : Int32) : rg x.toInt := ⟨by have := Int32.le_toInt x; simpa using this, by have := Int32.toInt_lt x; omega⟩
set_option maxRecDepth 100000 in
theorem lw_next (hq : ∀ S', JI S' → K 23 [some (.retAddr 0), some (.ref 0), some (.ref 179), some (.ref 202), some (.int (iI ((6 * k + 6 : Nat) : Int))), none, none] [] S') (hJ : JI S) : sT X 170 334 1529 [some (.retAddr 0), some (.ref 0), some (.ref 179), some (.ref 202), some (.int (iI ((6 * k : Nat) : Int))), none, none] [] S K := by
  refine sInX (z := ((6 * k : Nat) : Int)) (ls' := [some (.retAddr 0), some (.ref 0), some (.ref 179), some (.ref 202), some (.int (iI (((6 * k : Nat) : Int) + 6))), none, none]) (p := 1532) rfl rfl (Nat.le_of_ble_eq_true rfl) rfl rfl ?_
  refine sL (i := .goto (-1509)) rfl rfl ?_
  exact sHe (hq S hJ)
set_option maxRecDepth 100000 in
theorem lc_choice (hk : 6 * k + 6 ≤ X.length) (hX : X.length ≤ 384) (hJ : JI S) (hq : ∀ S', JI S' → K 23 [some (.retAddr 0), some (.ref 0), some (.ref 179), some (.ref 202), some (.int (iI ((6 * k + 6 : Nat) : Int))), none, none] [] S') : sT X 170 334 204 [some (.retAddr 0), some (.ref 0), some (.ref 179), some (.ref 202), some (.int (iI ((6 * k : Nat) : Int))), none, none] [] S K := by
  obtain ⟨z1, e1⟩ : ∃ z, (X.getD (6 * k + 1) 0).toInt = z := ⟨_, rfl⟩
  have r1 : rg z1 := by rw [← e1]; exact tI_rg _
  have ra1 := r1.1
  have rb1 := r1.2
  obtain ⟨z2, e2⟩ : ∃ z, (X.getD (6 * k + 2) 0).toInt = z := ⟨_, rfl⟩
  have r2 : rg z2 := by rw [← e2]; exact tI_rg _
  have ra2 := r2.1
  have rb2 := r2.2
  obtain ⟨z3, e3⟩ : ∃ z, (X.getD (6 * k + 3) 0).toInt = z := ⟨_, rfl⟩
  have r3 : rg z3 := by rw [← e3]; exact tI_rg _
  have ra3 := r3.1
  have rb3 := r3.2
  refine sL (pc' := 205) (i := .aload_n 1) rfl rfl ?_
  refine sL (pc' := 206) (i := .aload_n 0) rfl rfl ?_
  refine sL (pc' := 208) (i := .iload 4) rfl rfl ?_
  refine sKi (p := 209) rfl rfl ?_
  refine sAd (p := 210) rfl rfl ?_
  refine sSa (p := 211) (j := 6 * k + 1) rfl rfl (by omega) ⟨by omega, by omega⟩ e1 ?_
  refine sCvQ (p := 214) (as := [_]) rfl rfl rfl rfl (by decide) (Nat.le_of_ble_eq_true rfl) rfl (Nat.le_of_ble_eq_true rfl) (sk_0 _) rfl (by omega) (P_Choice hJ r1) ?_
  rintro _ S1 ⟨z, rfl, hm⟩
  refine sL (pc' := 215) (i := .aload_n 2) rfl rfl ?_
  refine sL (pc' := 216) (i := .aload_n 0) rfl rfl ?_
  refine sL (pc' := 218) (i := .iload 4) rfl rfl ?_
  refine sKi (p := 219) rfl rfl ?_
  refine sAd (p := 220) rfl rfl ?_
  refine sSa (p := 221) (j := 6 * k + 1) rfl rfl (by omega) ⟨by omega, by omega⟩ e1 ?_
  refine sCvQ (p := 224) (as := [_]) rfl rfl rfl rfl (by decide) (Nat.le_of_ble_eq_true rfl) rfl (Nat.le_of_ble_eq_true rfl) (sk_179 _) rfl (by omega) (hm) ?_
  rintro _ S2 ⟨rfl, hJ2⟩
  refine sCmpEq rfl ?_
  exact lw_next hq hJ2
set_option maxRecDepth 100000 in
theorem lc_weight (hk : 6 * k + 6 ≤ X.length) (hX : X.length ≤ 384) (hJ : JI S) (hq : ∀ S', JI S' → K 23 [some (.retAddr 0), some (.ref 0), some (.ref 179), some (.ref 202), some (.int (iI ((6 * k + 6 : Nat) : Int))), none, none] [] S') : sT X 170 334 229 [some (.retAddr 0), some (.ref 0), some (.ref 179), some (.ref 202), some (.int (iI ((6 * k : Nat) : Int))), none, none] [] S K := by
  obtain ⟨z1, e1⟩ : ∃ z, (X.getD (6 * k + 1) 0).toInt = z := ⟨_, rfl⟩
  have r1 : rg z1 := by rw [← e1]; exact tI_rg _
  have ra1 := r1.1
  have rb1 := r1.2
  obtain ⟨z2, e2⟩ : ∃ z, (X.getD (6 * k + 2) 0).toInt = z := ⟨_, rfl⟩
  have r2 : rg z2 := by rw [← e2]; exact tI_rg _
  have ra2 := r2.1
  have rb2 := r2.2
  obtain ⟨z3, e3⟩ : ∃ z, (X.getD (6 * k + 3) 0).toInt = z := ⟨_, rfl⟩
  have r3 : rg z3 := by rw [← e3]; exact tI_rg _
  have ra3 := r3.1
  have rb3 := r3.2
  refine sL (pc' := 230) (i := .aload_n 1) rfl rfl ?_
  refine sL (pc' := 231) (i := .aload_n 0) rfl rfl ?_
  refine sL (pc' := 233) (i := .iload 4) rfl rfl ?_
  refine sKi (p := 234) rfl rfl ?_
  refine sAd (p := 235) rfl rfl ?_
  refine sSa (p := 236) (j := 6 * k + 1) rfl rfl (by omega) ⟨by omega, by omega⟩ e1 ?_
  refine sL (pc' := 237) (i := .aload_n 0) rfl rfl ?_
  refine sL (pc' := 239) (i := .iload 4) rfl rfl ?_
  refine sKi (p := 240) rfl rfl ?_
  refine sAd (p := 241) rfl rfl ?_
  refine sSa (p := 242) (j := 6 * k + 2) rfl rfl (by omega) ⟨by omega, by omega⟩ e2 ?_
  refine sL (pc' := 243) (i := .aload_n 0) rfl rfl ?_
  refine sL (pc' := 245) (i := .iload 4) rfl rfl ?_
  refine sKi (p := 246) rfl rfl ?_
  refine sAd (p := 247) rfl rfl ?_
  refine sSa (p := 248) (j := 6 * k + 3) rfl rfl (by omega) ⟨by omega, by omega⟩ e3 ?_
  refine sCvQ (p := 251) (as := [_, _, _]) rfl rfl rfl rfl (by decide) (Nat.le_of_ble_eq_true rfl) rfl (Nat.le_of_ble_eq_true rfl) (sk_0 _) rfl (by omega) (P_Weight hJ r1 r2 r3) ?_
  rintro _ S1 ⟨z, rfl, hm⟩
  refine sL (pc' := 252) (i := .aload_n 2) rfl rfl ?_
  refine sL (pc' := 253) (i := .aload_n 0) rfl rfl ?_
  refine sL (pc' := 255) (i := .iload 4) rfl rfl ?_
  refine sKi (p := 256) rfl rfl ?_
  refine sAd (p := 257) rfl rfl ?_
  refine sSa (p := 258) (j := 6 * k + 1) rfl rfl (by omega) ⟨by omega, by omega⟩ e1 ?_
  refine sL (pc' := 259) (i := .aload_n 0) rfl rfl ?_
  refine sL (pc' := 261) (i := .iload 4) rfl rfl ?_
  refine sKi (p := 262) rfl rfl ?_
  refine sAd (p := 263) rfl rfl ?_
  refine sSa (p := 264) (j := 6 * k + 2) rfl rfl (by omega) ⟨by omega, by omega⟩ e2 ?_
  refine sL (pc' := 265) (i := .aload_n 0) rfl rfl ?_
  refine sL (pc' := 267) (i := .iload 4) rfl rfl ?_
  refine sKi (p := 268) rfl rfl ?_
  refine sAd (p := 269) rfl rfl ?_
  refine sSa (p := 270) (j := 6 * k + 3) rfl rfl (by omega) ⟨by omega, by omega⟩ e3 ?_
  refine sCvQ (p := 273) (as := [_, _, _]) rfl rfl rfl rfl (by decide) (Nat.le_of_ble_eq_true rfl) rfl (Nat.le_of_ble_eq_true rfl) (sk_179 _) rfl (by omega) (hm) ?_
  rintro _ S2 ⟨rfl, hJ2⟩
  refine sCmpEq rfl ?_
  exact lw_next hq hJ2
set_option maxRecDepth 100000 in
theorem lc_rule (hk : 6 * k + 6 ≤ X.length) (hX : X.length ≤ 384) (hJ : JI S) (hq : ∀ S', JI S' → K 23 [some (.retAddr 0), some (.ref 0), some (.ref 179), some (.ref 202), some (.int (iI ((6 * k + 6 : Nat) : Int))), none, none] [] S') : sT X 170 334 278 [some (.retAddr 0), some (.ref 0), some (.ref 179), some (.ref 202), some (.int (iI ((6 * k : Nat) : Int))), none, none] [] S K := by
  obtain ⟨z1, e1⟩ : ∃ z, (X.getD (6 * k + 1) 0).toInt = z := ⟨_, rfl⟩
  have r1 : rg z1 := by rw [← e1]; exact tI_rg _
  have ra1 := r1.1
  have rb1 := r1.2
  obtain ⟨z2, e2⟩ : ∃ z, (X.getD (6 * k + 2) 0).toInt = z := ⟨_, rfl⟩
  have r2 : rg z2 := by rw [← e2]; exact tI_rg _
  have ra2 := r2.1
  have rb2 := r2.2
  obtain ⟨z3, e3⟩ : ∃ z, (X.getD (6 * k + 3) 0).toInt = z := ⟨_, rfl⟩
  have r3 : rg z3 := by rw [← e3]; exact tI_rg _
  have ra3 := r3.1
  have rb3 := r3.2
  refine sL (pc' := 279) (i := .aload_n 1) rfl rfl ?_
  refine sL (pc' := 280) (i := .aload_n 0) rfl rfl ?_
  refine sL (pc' := 282) (i := .iload 4) rfl rfl ?_
  refine sKi (p := 283) rfl rfl ?_
  refine sAd (p := 284) rfl rfl ?_
  refine sSa (p := 285) (j := 6 * k + 1) rfl rfl (by omega) ⟨by omega, by omega⟩ e1 ?_
  refine sL (pc' := 286) (i := .aload_n 0) rfl rfl ?_
  refine sL (pc' := 288) (i := .iload 4) rfl rfl ?_
  refine sKi (p := 289) rfl rfl ?_
  refine sAd (p := 290) rfl rfl ?_
  refine sSa (p := 291) (j := 6 * k + 2) rfl rfl (by omega) ⟨by omega, by omega⟩ e2 ?_
  refine sL (pc' := 292) (i := .aload_n 0) rfl rfl ?_
  refine sL (pc' := 294) (i := .iload 4) rfl rfl ?_
  refine sKi (p := 295) rfl rfl ?_
  refine sAd (p := 296) rfl rfl ?_
  refine sSa (p := 297) (j := 6 * k + 3) rfl rfl (by omega) ⟨by omega, by omega⟩ e3 ?_
  refine sIf_eq (p := 300) rfl rfl ⟨by omega, by omega⟩ (fun c1 => ?_) (fun c1 => ?_)
  · have c1 := c1
    refine sKi (p := 305) rfl rfl ?_
    refine sCvQ (p := 308) (as := [_, _, _]) rfl rfl rfl rfl (by decide) (Nat.le_of_ble_eq_true rfl) rfl (Nat.le_of_ble_eq_true rfl) (sk_0 _) rfl (by omega) (P_Rule (q := false) hJ r1 r2) ?_
    rintro _ S1 ⟨z, rfl, hm⟩
    refine sL (pc' := 309) (i := .aload_n 2) rfl rfl ?_
    refine sL (pc' := 310) (i := .aload_n 0) rfl rfl ?_
    refine sL (pc' := 312) (i := .iload 4) rfl rfl ?_
    refine sKi (p := 313) rfl rfl ?_
    refine sAd (p := 314) rfl rfl ?_
    refine sSa (p := 315) (j := 6 * k + 1) rfl rfl (by omega) ⟨by omega, by omega⟩ e1 ?_
    refine sL (pc' := 316) (i := .aload_n 0) rfl rfl ?_
    refine sL (pc' := 318) (i := .iload 4) rfl rfl ?_
    refine sKi (p := 319) rfl rfl ?_
    refine sAd (p := 320) rfl rfl ?_
    refine sSa (p := 321) (j := 6 * k + 2) rfl rfl (by omega) ⟨by omega, by omega⟩ e2 ?_
    refine sL (pc' := 322) (i := .aload_n 0) rfl rfl ?_
    refine sL (pc' := 324) (i := .iload 4) rfl rfl ?_
    refine sKi (p := 325) rfl rfl ?_
    refine sAd (p := 326) rfl rfl ?_
    refine sSa (p := 327) (j := 6 * k + 3) rfl rfl (by omega) ⟨by omega, by omega⟩ e3 ?_
    refine sIf_eq (p := 330) rfl rfl ⟨by omega, by omega⟩ (fun c2 => ?_) (fun c2 => ?_)
    · have c2 := c2
      refine sKi (p := 335) rfl rfl ?_
      refine sCvQ (p := 338) (as := [_, _, _]) rfl rfl rfl rfl (by decide) (Nat.le_of_ble_eq_true rfl) rfl (Nat.le_of_ble_eq_true rfl) (sk_179 _) rfl (by omega) (hm) ?_
      rintro _ S2 ⟨rfl, hJ2⟩
      refine sCmpEq rfl ?_
      exact lw_next hq hJ2
    · have c2 := c2
      exfalso
      omega
  · have c1 := c1
    refine sKi (p := 301) rfl rfl ?_
    refine sL (i := .goto 4) rfl rfl ?_
    refine sCvQ (p := 308) (as := [_, _, _]) rfl rfl rfl rfl (by decide) (Nat.le_of_ble_eq_true rfl) rfl (Nat.le_of_ble_eq_true rfl) (sk_0 _) rfl (by omega) (P_Rule (q := true) hJ r1 r2) ?_
    rintro _ S1 ⟨z, rfl, hm⟩
    refine sL (pc' := 309) (i := .aload_n 2) rfl rfl ?_
    refine sL (pc' := 310) (i := .aload_n 0) rfl rfl ?_
    refine sL (pc' := 312) (i := .iload 4) rfl rfl ?_
    refine sKi (p := 313) rfl rfl ?_
    refine sAd (p := 314) rfl rfl ?_
    refine sSa (p := 315) (j := 6 * k + 1) rfl rfl (by omega) ⟨by omega, by omega⟩ e1 ?_
    refine sL (pc' := 316) (i := .aload_n 0) rfl rfl ?_
    refine sL (pc' := 318) (i := .iload 4) rfl rfl ?_
    refine sKi (p := 319) rfl rfl ?_
    refine sAd (p := 320) rfl rfl ?_
    refine sSa (p := 321) (j := 6 * k + 2) rfl rfl (by omega) ⟨by omega, by omega⟩ e2 ?_
    refine sL (pc' := 322) (i := .aload_n 0) rfl rfl ?_
    refine sL (pc' := 324) (i := .iload 4) rfl rfl ?_
    refine sKi (p := 325) rfl rfl ?_
    refine sAd (p := 326) rfl rfl ?_
    refine sSa (p := 327) (j := 6 * k + 3) rfl rfl (by omega) ⟨by omega, by omega⟩ e3 ?_
    refine sIf_eq (p := 330) rfl rfl ⟨by omega, by omega⟩ (fun c3 => ?_) (fun c3 => ?_)
    · have c3 := c3
      exfalso
      omega
    · have c3 := c3
      refine sKi (p := 331) rfl rfl ?_
      refine sL (i := .goto 4) rfl rfl ?_
      refine sCvQ (p := 338) (as := [_, _, _]) rfl rfl rfl rfl (by decide) (Nat.le_of_ble_eq_true rfl) rfl (Nat.le_of_ble_eq_true rfl) (sk_179 _) rfl (by omega) (hm) ?_
      rintro _ S2 ⟨rfl, hJ2⟩
      refine sCmpEq rfl ?_
      exact lw_next hq hJ2
set_option maxRecDepth 100000 in
theorem lc_is (hk : 6 * k + 6 ≤ X.length) (hX : X.length ≤ 384) (hJ : JI S) (hq : ∀ S', JI S' → K 23 [some (.retAddr 0), some (.ref 0), some (.ref 179), some (.ref 202), some (.int (iI ((6 * k + 6 : Nat) : Int))), none, none] [] S') : sT X 170 334 343 [some (.retAddr 0), some (.ref 0), some (.ref 179), some (.ref 202), some (.int (iI ((6 * k : Nat) : Int))), none, none] [] S K := by
  obtain ⟨z1, e1⟩ : ∃ z, (X.getD (6 * k + 1) 0).toInt = z := ⟨_, rfl⟩
  have r1 : rg z1 := by rw [← e1]; exact tI_rg _
  have ra1 := r1.1
  have rb1 := r1.2
  obtain ⟨z2, e2⟩ : ∃ z, (X.getD (6 * k + 2) 0).toInt = z := ⟨_, rfl⟩
  have r2 : rg z2 := by rw [← e2]; exact tI_rg _
  have ra2 := r2.1
  have rb2 := r2.2
  obtain ⟨z3, e3⟩ : ∃ z, (X.getD (6 * k + 3) 0).toInt = z := ⟨_, rfl⟩
  have r3 : rg z3 := by rw [← e3]; exact tI_rg _
  have ra3 := r3.1
  have rb3 := r3.2
  refine sL (pc' := 344) (i := .aload_n 1) rfl rfl ?_
  refine sL (pc' := 345) (i := .aload_n 0) rfl rfl ?_
  refine sL (pc' := 347) (i := .iload 4) rfl rfl ?_
  refine sKi (p := 348) rfl rfl ?_
  refine sAd (p := 349) rfl rfl ?_
  refine sSa (p := 350) (j := 6 * k + 1) rfl rfl (by omega) ⟨by omega, by omega⟩ e1 ?_
  refine sL (pc' := 351) (i := .aload_n 0) rfl rfl ?_
  refine sL (pc' := 353) (i := .iload 4) rfl rfl ?_
  refine sKi (p := 354) rfl rfl ?_
  refine sAd (p := 355) rfl rfl ?_
  refine sSa (p := 356) (j := 6 * k + 2) rfl rfl (by omega) ⟨by omega, by omega⟩ e2 ?_
  refine sCvQ (p := 359) (as := [_, _]) rfl rfl rfl rfl (by decide) (Nat.le_of_ble_eq_true rfl) rfl (Nat.le_of_ble_eq_true rfl) (sk_0 _) rfl (by omega) (P_Is hJ r1 r2) ?_
  rintro _ S1 ⟨z, rfl, hm⟩
  refine sL (pc' := 360) (i := .aload_n 2) rfl rfl ?_
  refine sL (pc' := 361) (i := .aload_n 0) rfl rfl ?_
  refine sL (pc' := 363) (i := .iload 4) rfl rfl ?_
  refine sKi (p := 364) rfl rfl ?_
  refine sAd (p := 365) rfl rfl ?_
  refine sSa (p := 366) (j := 6 * k + 1) rfl rfl (by omega) ⟨by omega, by omega⟩ e1 ?_
  refine sL (pc' := 367) (i := .aload_n 0) rfl rfl ?_
  refine sL (pc' := 369) (i := .iload 4) rfl rfl ?_
  refine sKi (p := 370) rfl rfl ?_
  refine sAd (p := 371) rfl rfl ?_
  refine sSa (p := 372) (j := 6 * k + 2) rfl rfl (by omega) ⟨by omega, by omega⟩ e2 ?_
  refine sCvQ (p := 375) (as := [_, _]) rfl rfl rfl rfl (by decide) (Nat.le_of_ble_eq_true rfl) rfl (Nat.le_of_ble_eq_true rfl) (sk_179 _) rfl (by omega) (hm) ?_
  rintro _ S2 ⟨rfl, hJ2⟩
  refine sCmpEq rfl ?_
  exact lw_next hq hJ2
set_option maxRecDepth 100000 in
theorem lc_compare (hk : 6 * k + 6 ≤ X.length) (hX : X.length ≤ 384) (hJ : JI S) (hq : ∀ S', JI S' → K 23 [some (.retAddr 0), some (.ref 0), some (.ref 179), some (.ref 202), some (.int (iI ((6 * k + 6 : Nat) : Int))), none, none] [] S') : sT X 170 334 380 [some (.retAddr 0), some (.ref 0), some (.ref 179), some (.ref 202), some (.int (iI ((6 * k : Nat) : Int))), none, none] [] S K := by
  obtain ⟨z1, e1⟩ : ∃ z, (X.getD (6 * k + 1) 0).toInt = z := ⟨_, rfl⟩
  have r1 : rg z1 := by rw [← e1]; exact tI_rg _
  have ra1 := r1.1
  have rb1 := r1.2
  obtain ⟨z2, e2⟩ : ∃ z, (X.getD (6 * k + 2) 0).toInt = z := ⟨_, rfl⟩
  have r2 : rg z2 := by rw [← e2]; exact tI_rg _
  have ra2 := r2.1
  have rb2 := r2.2
  obtain ⟨z3, e3⟩ : ∃ z, (X.getD (6 * k + 3) 0).toInt = z := ⟨_, rfl⟩
  have r3 : rg z3 := by rw [← e3]; exact tI_rg _
  have ra3 := r3.1
  have rb3 := r3.2
  refine sL (pc' := 381) (i := .aload_n 1) rfl rfl ?_
  refine sL (pc' := 382) (i := .aload_n 0) rfl rfl ?_
  refine sL (pc' := 384) (i := .iload 4) rfl rfl ?_
  refine sKi (p := 385) rfl rfl ?_
  refine sAd (p := 386) rfl rfl ?_
  refine sSa (p := 387) (j := 6 * k + 1) rfl rfl (by omega) ⟨by omega, by omega⟩ e1 ?_
  refine sL (pc' := 388) (i := .aload_n 0) rfl rfl ?_
  refine sL (pc' := 390) (i := .iload 4) rfl rfl ?_
  refine sKi (p := 391) rfl rfl ?_
  refine sAd (p := 392) rfl rfl ?_
  refine sSa (p := 393) (j := 6 * k + 2) rfl rfl (by omega) ⟨by omega, by omega⟩ e2 ?_
  refine sL (pc' := 394) (i := .aload_n 0) rfl rfl ?_
  refine sL (pc' := 396) (i := .iload 4) rfl rfl ?_
  refine sKi (p := 397) rfl rfl ?_
  refine sAd (p := 398) rfl rfl ?_
  refine sSa (p := 399) (j := 6 * k + 3) rfl rfl (by omega) ⟨by omega, by omega⟩ e3 ?_
  refine sCvQ (p := 402) (as := [_, _, _]) rfl rfl rfl rfl (by decide) (Nat.le_of_ble_eq_true rfl) rfl (Nat.le_of_ble_eq_true rfl) (sk_0 _) rfl (by omega) (P_Cmp hJ r1 r2 r3) ?_
  rintro _ S1 ⟨z, rfl, hm⟩
  refine sL (pc' := 403) (i := .aload_n 2) rfl rfl ?_
  refine sL (pc' := 404) (i := .aload_n 0) rfl rfl ?_
  refine sL (pc' := 406) (i := .iload 4) rfl rfl ?_
  refine sKi (p := 407) rfl rfl ?_
  refine sAd (p := 408) rfl rfl ?_
  refine sSa (p := 409) (j := 6 * k + 1) rfl rfl (by omega) ⟨by omega, by omega⟩ e1 ?_
  refine sL (pc' := 410) (i := .aload_n 0) rfl rfl ?_
  refine sL (pc' := 412) (i := .iload 4) rfl rfl ?_
  refine sKi (p := 413) rfl rfl ?_
  refine sAd (p := 414) rfl rfl ?_
  refine sSa (p := 415) (j := 6 * k + 2) rfl rfl (by omega) ⟨by omega, by omega⟩ e2 ?_
  refine sL (pc' := 416) (i := .aload_n 0) rfl rfl ?_
  refine sL (pc' := 418) (i := .iload 4) rfl rfl ?_
  refine sKi (p := 419) rfl rfl ?_
  refine sAd (p := 420) rfl rfl ?_
  refine sSa (p := 421) (j := 6 * k + 3) rfl rfl (by omega) ⟨by omega, by omega⟩ e3 ?_
  refine sCvQ (p := 424) (as := [_, _, _]) rfl rfl rfl rfl (by decide) (Nat.le_of_ble_eq_true rfl) rfl (Nat.le_of_ble_eq_true rfl) (sk_179 _) rfl (by omega) (hm) ?_
  rintro _ S2 ⟨rfl, hJ2⟩
  refine sCmpEq rfl ?_
  exact lw_next hq hJ2
set_option maxRecDepth 100000 in
theorem lc_many (hk : 6 * k + 6 ≤ X.length) (hX : X.length ≤ 384) (hJ : JI S) (hq : ∀ S', JI S' → K 23 [some (.retAddr 0), some (.ref 0), some (.ref 179), some (.ref 202), some (.int (iI ((6 * k + 6 : Nat) : Int))), none, none] [] S') : sT X 170 334 429 [some (.retAddr 0), some (.ref 0), some (.ref 179), some (.ref 202), some (.int (iI ((6 * k : Nat) : Int))), none, none] [] S K := by
  obtain ⟨z1, e1⟩ : ∃ z, (X.getD (6 * k + 1) 0).toInt = z := ⟨_, rfl⟩
  have r1 : rg z1 := by rw [← e1]; exact tI_rg _
  have ra1 := r1.1
  have rb1 := r1.2
  obtain ⟨z2, e2⟩ : ∃ z, (X.getD (6 * k + 2) 0).toInt = z := ⟨_, rfl⟩
  have r2 : rg z2 := by rw [← e2]; exact tI_rg _
  have ra2 := r2.1
  have rb2 := r2.2
  obtain ⟨z3, e3⟩ : ∃ z, (X.getD (6 * k + 3) 0).toInt = z := ⟨_, rfl⟩
  have r3 : rg z3 := by rw [← e3]; exact tI_rg _
  have ra3 := r3.1
  have rb3 := r3.2
  refine sL (pc' := 430) (i := .aload_n 1) rfl rfl ?_
  refine sL (pc' := 431) (i := .aload_n 0) rfl rfl ?_
  refine sL (pc' := 433) (i := .iload 4) rfl rfl ?_
  refine sKi (p := 434) rfl rfl ?_
  refine sAd (p := 435) rfl rfl ?_
  refine sSa (p := 436) (j := 6 * k + 1) rfl rfl (by omega) ⟨by omega, by omega⟩ e1 ?_
  refine sL (pc' := 437) (i := .aload_n 0) rfl rfl ?_
  refine sL (pc' := 439) (i := .iload 4) rfl rfl ?_
  refine sKi (p := 440) rfl rfl ?_
  refine sAd (p := 441) rfl rfl ?_
  refine sSa (p := 442) (j := 6 * k + 2) rfl rfl (by omega) ⟨by omega, by omega⟩ e2 ?_
  refine sCvQ (p := 445) (as := [_, _]) rfl rfl rfl rfl (by decide) (Nat.le_of_ble_eq_true rfl) rfl (Nat.le_of_ble_eq_true rfl) (sk_0 _) rfl (by omega) (P_Many hJ r1 r2) ?_
  rintro _ S1 ⟨z, rfl, hm⟩
  refine sL (pc' := 446) (i := .aload_n 2) rfl rfl ?_
  refine sL (pc' := 447) (i := .aload_n 0) rfl rfl ?_
  refine sL (pc' := 449) (i := .iload 4) rfl rfl ?_
  refine sKi (p := 450) rfl rfl ?_
  refine sAd (p := 451) rfl rfl ?_
  refine sSa (p := 452) (j := 6 * k + 1) rfl rfl (by omega) ⟨by omega, by omega⟩ e1 ?_
  refine sL (pc' := 453) (i := .aload_n 0) rfl rfl ?_
  refine sL (pc' := 455) (i := .iload 4) rfl rfl ?_
  refine sKi (p := 456) rfl rfl ?_
  refine sAd (p := 457) rfl rfl ?_
  refine sSa (p := 458) (j := 6 * k + 2) rfl rfl (by omega) ⟨by omega, by omega⟩ e2 ?_
  refine sCvQ (p := 461) (as := [_, _]) rfl rfl rfl rfl (by decide) (Nat.le_of_ble_eq_true rfl) rfl (Nat.le_of_ble_eq_true rfl) (sk_179 _) rfl (by omega) (hm) ?_
  rintro _ S2 ⟨rfl, hJ2⟩
  refine sCmpEq rfl ?_
  exact lw_next hq hJ2
set_option maxRecDepth 100000 in
theorem lc_join (hk : 6 * k + 6 ≤ X.length) (hX : X.length ≤ 384) (hJ : JI S) (hq : ∀ S', JI S' → K 23 [some (.retAddr 0), some (.ref 0), some (.ref 179), some (.ref 202), some (.int (iI ((6 * k + 6 : Nat) : Int))), none, none] [] S') : sT X 170 334 466 [some (.retAddr 0), some (.ref 0), some (.ref 179), some (.ref 202), some (.int (iI ((6 * k : Nat) : Int))), none, none] [] S K := by
  obtain ⟨z1, e1⟩ : ∃ z, (X.getD (6 * k + 1) 0).toInt = z := ⟨_, rfl⟩
  have r1 : rg z1 := by rw [← e1]; exact tI_rg _
  have ra1 := r1.1
  have rb1 := r1.2
  obtain ⟨z2, e2⟩ : ∃ z, (X.getD (6 * k + 2) 0).toInt = z := ⟨_, rfl⟩
  have r2 : rg z2 := by rw [← e2]; exact tI_rg _
  have ra2 := r2.1
  have rb2 := r2.2
  obtain ⟨z3, e3⟩ : ∃ z, (X.getD (6 * k + 3) 0).toInt = z := ⟨_, rfl⟩
  have r3 : rg z3 := by rw [← e3]; exact tI_rg _
  have ra3 := r3.1
  have rb3 := r3.2
  refine sL (pc' := 467) (i := .aload_n 1) rfl rfl ?_
  refine sL (pc' := 468) (i := .aload_n 0) rfl rfl ?_
  refine sL (pc' := 470) (i := .iload 4) rfl rfl ?_
  refine sKi (p := 471) rfl rfl ?_
  refine sAd (p := 472) rfl rfl ?_
  refine sSa (p := 473) (j := 6 * k + 1) rfl rfl (by omega) ⟨by omega, by omega⟩ e1 ?_
  refine sL (pc' := 474) (i := .aload_n 0) rfl rfl ?_
  refine sL (pc' := 476) (i := .iload 4) rfl rfl ?_
  refine sKi (p := 477) rfl rfl ?_
  refine sAd (p := 478) rfl rfl ?_
  refine sSa (p := 479) (j := 6 * k + 2) rfl rfl (by omega) ⟨by omega, by omega⟩ e2 ?_
  refine sL (pc' := 480) (i := .aload_n 0) rfl rfl ?_
  refine sL (pc' := 482) (i := .iload 4) rfl rfl ?_
  refine sKi (p := 483) rfl rfl ?_
  refine sAd (p := 484) rfl rfl ?_
  refine sSa (p := 485) (j := 6 * k + 3) rfl rfl (by omega) ⟨by omega, by omega⟩ e3 ?_
  refine sCvQ (p := 488) (as := [_, _, _]) rfl rfl rfl rfl (by decide) (Nat.le_of_ble_eq_true rfl) rfl (Nat.le_of_ble_eq_true rfl) (sk_0 _) rfl (by omega) (P_Join hJ r1 r2 r3) ?_
  rintro _ S1 ⟨z, rfl, hm⟩
  refine sL (pc' := 489) (i := .aload_n 2) rfl rfl ?_
  refine sL (pc' := 490) (i := .aload_n 0) rfl rfl ?_
  refine sL (pc' := 492) (i := .iload 4) rfl rfl ?_
  refine sKi (p := 493) rfl rfl ?_
  refine sAd (p := 494) rfl rfl ?_
  refine sSa (p := 495) (j := 6 * k + 1) rfl rfl (by omega) ⟨by omega, by omega⟩ e1 ?_
  refine sL (pc' := 496) (i := .aload_n 0) rfl rfl ?_
  refine sL (pc' := 498) (i := .iload 4) rfl rfl ?_
  refine sKi (p := 499) rfl rfl ?_
  refine sAd (p := 500) rfl rfl ?_
  refine sSa (p := 501) (j := 6 * k + 2) rfl rfl (by omega) ⟨by omega, by omega⟩ e2 ?_
  refine sL (pc' := 502) (i := .aload_n 0) rfl rfl ?_
  refine sL (pc' := 504) (i := .iload 4) rfl rfl ?_
  refine sKi (p := 505) rfl rfl ?_
  refine sAd (p := 506) rfl rfl ?_
  refine sSa (p := 507) (j := 6 * k + 3) rfl rfl (by omega) ⟨by omega, by omega⟩ e3 ?_
  refine sCvQ (p := 510) (as := [_, _, _]) rfl rfl rfl rfl (by decide) (Nat.le_of_ble_eq_true rfl) rfl (Nat.le_of_ble_eq_true rfl) (sk_179 _) rfl (by omega) (hm) ?_
  rintro _ S2 ⟨rfl, hJ2⟩
  refine sCmpEq rfl ?_
  exact lw_next hq hJ2
set_option maxRecDepth 100000 in
theorem lc_not (hk : 6 * k + 6 ≤ X.length) (hX : X.length ≤ 384) (hJ : JI S) (hq : ∀ S', JI S' → K 23 [some (.retAddr 0), some (.ref 0), some (.ref 179), some (.ref 202), some (.int (iI ((6 * k + 6 : Nat) : Int))), none, none] [] S') : sT X 170 334 515 [some (.retAddr 0), some (.ref 0), some (.ref 179), some (.ref 202), some (.int (iI ((6 * k : Nat) : Int))), none, none] [] S K := by
  obtain ⟨z1, e1⟩ : ∃ z, (X.getD (6 * k + 1) 0).toInt = z := ⟨_, rfl⟩
  have r1 : rg z1 := by rw [← e1]; exact tI_rg _
  have ra1 := r1.1
  have rb1 := r1.2
  obtain ⟨z2, e2⟩ : ∃ z, (X.getD (6 * k + 2) 0).toInt = z := ⟨_, rfl⟩
  have r2 : rg z2 := by rw [← e2]; exact tI_rg _
  have ra2 := r2.1
  have rb2 := r2.2
  obtain ⟨z3, e3⟩ : ∃ z, (X.getD (6 * k + 3) 0).toInt = z := ⟨_, rfl⟩
  have r3 : rg z3 := by rw [← e3]; exact tI_rg _
  have ra3 := r3.1
  have rb3 := r3.2
  refine sL (pc' := 516) (i := .aload_n 1) rfl rfl ?_
  refine sL (pc' := 517) (i := .aload_n 0) rfl rfl ?_
  refine sL (pc' := 519) (i := .iload 4) rfl rfl ?_
  refine sKi (p := 520) rfl rfl ?_
  refine sAd (p := 521) rfl rfl ?_
  refine sSa (p := 522) (j := 6 * k + 1) rfl rfl (by omega) ⟨by omega, by omega⟩ e1 ?_
  refine sCvQ (p := 525) (as := [_]) rfl rfl rfl rfl (by decide) (Nat.le_of_ble_eq_true rfl) rfl (Nat.le_of_ble_eq_true rfl) (sk_0 _) rfl (by omega) (P_Not hJ r1) ?_
  rintro _ S1 ⟨z, rfl, hm⟩
  refine sL (pc' := 526) (i := .aload_n 2) rfl rfl ?_
  refine sL (pc' := 527) (i := .aload_n 0) rfl rfl ?_
  refine sL (pc' := 529) (i := .iload 4) rfl rfl ?_
  refine sKi (p := 530) rfl rfl ?_
  refine sAd (p := 531) rfl rfl ?_
  refine sSa (p := 532) (j := 6 * k + 1) rfl rfl (by omega) ⟨by omega, by omega⟩ e1 ?_
  refine sCvQ (p := 535) (as := [_]) rfl rfl rfl rfl (by decide) (Nat.le_of_ble_eq_true rfl) rfl (Nat.le_of_ble_eq_true rfl) (sk_179 _) rfl (by omega) (hm) ?_
  rintro _ S2 ⟨rfl, hJ2⟩
  refine sCmpEq rfl ?_
  exact lw_next hq hJ2
set_option maxRecDepth 100000 in
theorem lc_choose (hk : 6 * k + 6 ≤ X.length) (hX : X.length ≤ 384) (hJ : JI S) (hq : ∀ S', JI S' → K 23 [some (.retAddr 0), some (.ref 0), some (.ref 179), some (.ref 202), some (.int (iI ((6 * k + 6 : Nat) : Int))), none, none] [] S') : sT X 170 334 540 [some (.retAddr 0), some (.ref 0), some (.ref 179), some (.ref 202), some (.int (iI ((6 * k : Nat) : Int))), none, none] [] S K := by
  obtain ⟨z1, e1⟩ : ∃ z, (X.getD (6 * k + 1) 0).toInt = z := ⟨_, rfl⟩
  have r1 : rg z1 := by rw [← e1]; exact tI_rg _
  have ra1 := r1.1
  have rb1 := r1.2
  obtain ⟨z2, e2⟩ : ∃ z, (X.getD (6 * k + 2) 0).toInt = z := ⟨_, rfl⟩
  have r2 : rg z2 := by rw [← e2]; exact tI_rg _
  have ra2 := r2.1
  have rb2 := r2.2
  obtain ⟨z3, e3⟩ : ∃ z, (X.getD (6 * k + 3) 0).toInt = z := ⟨_, rfl⟩
  have r3 : rg z3 := by rw [← e3]; exact tI_rg _
  have ra3 := r3.1
  have rb3 := r3.2
  refine sL (pc' := 541) (i := .aload_n 1) rfl rfl ?_
  refine sL (pc' := 542) (i := .aload_n 0) rfl rfl ?_
  refine sL (pc' := 544) (i := .iload 4) rfl rfl ?_
  refine sKi (p := 545) rfl rfl ?_
  refine sAd (p := 546) rfl rfl ?_
  refine sSa (p := 547) (j := 6 * k + 1) rfl rfl (by omega) ⟨by omega, by omega⟩ e1 ?_
  refine sL (pc' := 548) (i := .aload_n 0) rfl rfl ?_
  refine sL (pc' := 550) (i := .iload 4) rfl rfl ?_
  refine sKi (p := 551) rfl rfl ?_
  refine sAd (p := 552) rfl rfl ?_
  refine sSa (p := 553) (j := 6 * k + 2) rfl rfl (by omega) ⟨by omega, by omega⟩ e2 ?_
  refine sL (pc' := 554) (i := .aload_n 0) rfl rfl ?_
  refine sL (pc' := 556) (i := .iload 4) rfl rfl ?_
  refine sKi (p := 557) rfl rfl ?_
  refine sAd (p := 558) rfl rfl ?_
  refine sSa (p := 559) (j := 6 * k + 3) rfl rfl (by omega) ⟨by omega, by omega⟩ e3 ?_
  refine sCvQ (p := 562) (as := [_, _, _]) rfl rfl rfl rfl (by decide) (Nat.le_of_ble_eq_true rfl) rfl (Nat.le_of_ble_eq_true rfl) (sk_0 _) rfl (by omega) (P_Choose hJ r1 r2 r3) ?_
  rintro _ S1 ⟨z, rfl, hm⟩
  refine sL (pc' := 563) (i := .aload_n 2) rfl rfl ?_
  refine sL (pc' := 564) (i := .aload_n 0) rfl rfl ?_
  refine sL (pc' := 566) (i := .iload 4) rfl rfl ?_
  refine sKi (p := 567) rfl rfl ?_
  refine sAd (p := 568) rfl rfl ?_
  refine sSa (p := 569) (j := 6 * k + 1) rfl rfl (by omega) ⟨by omega, by omega⟩ e1 ?_
  refine sL (pc' := 570) (i := .aload_n 0) rfl rfl ?_
  refine sL (pc' := 572) (i := .iload 4) rfl rfl ?_
  refine sKi (p := 573) rfl rfl ?_
  refine sAd (p := 574) rfl rfl ?_
  refine sSa (p := 575) (j := 6 * k + 2) rfl rfl (by omega) ⟨by omega, by omega⟩ e2 ?_
  refine sL (pc' := 576) (i := .aload_n 0) rfl rfl ?_
  refine sL (pc' := 578) (i := .iload 4) rfl rfl ?_
  refine sKi (p := 579) rfl rfl ?_
  refine sAd (p := 580) rfl rfl ?_
  refine sSa (p := 581) (j := 6 * k + 3) rfl rfl (by omega) ⟨by omega, by omega⟩ e3 ?_
  refine sCvQ (p := 584) (as := [_, _, _]) rfl rfl rfl rfl (by decide) (Nat.le_of_ble_eq_true rfl) rfl (Nat.le_of_ble_eq_true rfl) (sk_179 _) rfl (by omega) (hm) ?_
  rintro _ S2 ⟨rfl, hJ2⟩
  refine sCmpEq rfl ?_
  exact lw_next hq hJ2
set_option maxRecDepth 100000 in
theorem lc_condition (hk : 6 * k + 6 ≤ X.length) (hX : X.length ≤ 384) (hJ : JI S) (hq : ∀ S', JI S' → K 23 [some (.retAddr 0), some (.ref 0), some (.ref 179), some (.ref 202), some (.int (iI ((6 * k + 6 : Nat) : Int))), none, none] [] S') : sT X 170 334 589 [some (.retAddr 0), some (.ref 0), some (.ref 179), some (.ref 202), some (.int (iI ((6 * k : Nat) : Int))), none, none] [] S K := by
  obtain ⟨z1, e1⟩ : ∃ z, (X.getD (6 * k + 1) 0).toInt = z := ⟨_, rfl⟩
  have r1 : rg z1 := by rw [← e1]; exact tI_rg _
  have ra1 := r1.1
  have rb1 := r1.2
  obtain ⟨z2, e2⟩ : ∃ z, (X.getD (6 * k + 2) 0).toInt = z := ⟨_, rfl⟩
  have r2 : rg z2 := by rw [← e2]; exact tI_rg _
  have ra2 := r2.1
  have rb2 := r2.2
  obtain ⟨z3, e3⟩ : ∃ z, (X.getD (6 * k + 3) 0).toInt = z := ⟨_, rfl⟩
  have r3 : rg z3 := by rw [← e3]; exact tI_rg _
  have ra3 := r3.1
  have rb3 := r3.2
  refine sL (pc' := 590) (i := .aload_n 1) rfl rfl ?_
  refine sL (pc' := 591) (i := .aload_n 0) rfl rfl ?_
  refine sL (pc' := 593) (i := .iload 4) rfl rfl ?_
  refine sKi (p := 594) rfl rfl ?_
  refine sAd (p := 595) rfl rfl ?_
  refine sSa (p := 596) (j := 6 * k + 1) rfl rfl (by omega) ⟨by omega, by omega⟩ e1 ?_
  refine sL (pc' := 597) (i := .aload_n 0) rfl rfl ?_
  refine sL (pc' := 599) (i := .iload 4) rfl rfl ?_
  refine sKi (p := 600) rfl rfl ?_
  refine sAd (p := 601) rfl rfl ?_
  refine sSa (p := 602) (j := 6 * k + 2) rfl rfl (by omega) ⟨by omega, by omega⟩ e2 ?_
  refine sL (pc' := 603) (i := .aload_n 0) rfl rfl ?_
  refine sL (pc' := 605) (i := .iload 4) rfl rfl ?_
  refine sKi (p := 606) rfl rfl ?_
  refine sAd (p := 607) rfl rfl ?_
  refine sSa (p := 608) (j := 6 * k + 3) rfl rfl (by omega) ⟨by omega, by omega⟩ e3 ?_
  refine sCvQ (p := 611) (as := [_, _, _]) rfl rfl rfl rfl (by decide) (Nat.le_of_ble_eq_true rfl) rfl (Nat.le_of_ble_eq_true rfl) (sk_0 _) rfl (by omega) (P_Cond hJ r1 r2 r3) ?_
  rintro _ S1 ⟨z, rfl, hm⟩
  refine sL (pc' := 612) (i := .aload_n 2) rfl rfl ?_
  refine sL (pc' := 613) (i := .aload_n 0) rfl rfl ?_
  refine sL (pc' := 615) (i := .iload 4) rfl rfl ?_
  refine sKi (p := 616) rfl rfl ?_
  refine sAd (p := 617) rfl rfl ?_
  refine sSa (p := 618) (j := 6 * k + 1) rfl rfl (by omega) ⟨by omega, by omega⟩ e1 ?_
  refine sL (pc' := 619) (i := .aload_n 0) rfl rfl ?_
  refine sL (pc' := 621) (i := .iload 4) rfl rfl ?_
  refine sKi (p := 622) rfl rfl ?_
  refine sAd (p := 623) rfl rfl ?_
  refine sSa (p := 624) (j := 6 * k + 2) rfl rfl (by omega) ⟨by omega, by omega⟩ e2 ?_
  refine sL (pc' := 625) (i := .aload_n 0) rfl rfl ?_
  refine sL (pc' := 627) (i := .iload 4) rfl rfl ?_
  refine sKi (p := 628) rfl rfl ?_
  refine sAd (p := 629) rfl rfl ?_
  refine sSa (p := 630) (j := 6 * k + 3) rfl rfl (by omega) ⟨by omega, by omega⟩ e3 ?_
  refine sCvQ (p := 633) (as := [_, _, _]) rfl rfl rfl rfl (by decide) (Nat.le_of_ble_eq_true rfl) rfl (Nat.le_of_ble_eq_true rfl) (sk_179 _) rfl (by omega) (hm) ?_
  rintro _ S2 ⟨rfl, hJ2⟩
  refine sCmpEq rfl ?_
  exact lw_next hq hJ2
set_option maxRecDepth 100000 in
theorem lc_quantify (hk : 6 * k + 6 ≤ X.length) (hX : X.length ≤ 384) (hJ : JI S) (hq : ∀ S', JI S' → K 23 [some (.retAddr 0), some (.ref 0), some (.ref 179), some (.ref 202), some (.int (iI ((6 * k + 6 : Nat) : Int))), none, none] [] S') : sT X 170 334 638 [some (.retAddr 0), some (.ref 0), some (.ref 179), some (.ref 202), some (.int (iI ((6 * k : Nat) : Int))), none, none] [] S K := by
  obtain ⟨z1, e1⟩ : ∃ z, (X.getD (6 * k + 1) 0).toInt = z := ⟨_, rfl⟩
  have r1 : rg z1 := by rw [← e1]; exact tI_rg _
  have ra1 := r1.1
  have rb1 := r1.2
  obtain ⟨z2, e2⟩ : ∃ z, (X.getD (6 * k + 2) 0).toInt = z := ⟨_, rfl⟩
  have r2 : rg z2 := by rw [← e2]; exact tI_rg _
  have ra2 := r2.1
  have rb2 := r2.2
  obtain ⟨z3, e3⟩ : ∃ z, (X.getD (6 * k + 3) 0).toInt = z := ⟨_, rfl⟩
  have r3 : rg z3 := by rw [← e3]; exact tI_rg _
  have ra3 := r3.1
  have rb3 := r3.2
  refine sL (pc' := 639) (i := .aload_n 1) rfl rfl ?_
  refine sL (pc' := 640) (i := .aload_n 0) rfl rfl ?_
  refine sL (pc' := 642) (i := .iload 4) rfl rfl ?_
  refine sKi (p := 643) rfl rfl ?_
  refine sAd (p := 644) rfl rfl ?_
  refine sSa (p := 645) (j := 6 * k + 1) rfl rfl (by omega) ⟨by omega, by omega⟩ e1 ?_
  refine sL (pc' := 646) (i := .aload_n 0) rfl rfl ?_
  refine sL (pc' := 648) (i := .iload 4) rfl rfl ?_
  refine sKi (p := 649) rfl rfl ?_
  refine sAd (p := 650) rfl rfl ?_
  refine sSa (p := 651) (j := 6 * k + 2) rfl rfl (by omega) ⟨by omega, by omega⟩ e2 ?_
  refine sL (pc' := 652) (i := .aload_n 0) rfl rfl ?_
  refine sL (pc' := 654) (i := .iload 4) rfl rfl ?_
  refine sKi (p := 655) rfl rfl ?_
  refine sAd (p := 656) rfl rfl ?_
  refine sSa (p := 657) (j := 6 * k + 3) rfl rfl (by omega) ⟨by omega, by omega⟩ e3 ?_
  refine sIf_eq (p := 660) rfl rfl ⟨by omega, by omega⟩ (fun c1 => ?_) (fun c1 => ?_)
  · have c1 := c1
    refine sKi (p := 665) rfl rfl ?_
    refine sCvQ (p := 668) (as := [_, _, _]) rfl rfl rfl rfl (by decide) (Nat.le_of_ble_eq_true rfl) rfl (Nat.le_of_ble_eq_true rfl) (sk_0 _) rfl (by omega) (P_Quant (all := false) hJ r1 r2) ?_
    rintro _ S1 ⟨z, rfl, hm⟩
    refine sL (pc' := 669) (i := .aload_n 2) rfl rfl ?_
    refine sL (pc' := 670) (i := .aload_n 0) rfl rfl ?_
    refine sL (pc' := 672) (i := .iload 4) rfl rfl ?_
    refine sKi (p := 673) rfl rfl ?_
    refine sAd (p := 674) rfl rfl ?_
    refine sSa (p := 675) (j := 6 * k + 1) rfl rfl (by omega) ⟨by omega, by omega⟩ e1 ?_
    refine sL (pc' := 676) (i := .aload_n 0) rfl rfl ?_
    refine sL (pc' := 678) (i := .iload 4) rfl rfl ?_
    refine sKi (p := 679) rfl rfl ?_
    refine sAd (p := 680) rfl rfl ?_
    refine sSa (p := 681) (j := 6 * k + 2) rfl rfl (by omega) ⟨by omega, by omega⟩ e2 ?_
    refine sL (pc' := 682) (i := .aload_n 0) rfl rfl ?_
    refine sL (pc' := 684) (i := .iload 4) rfl rfl ?_
    refine sKi (p := 685) rfl rfl ?_
    refine sAd (p := 686) rfl rfl ?_
    refine sSa (p := 687) (j := 6 * k + 3) rfl rfl (by omega) ⟨by omega, by omega⟩ e3 ?_
    refine sIf_eq (p := 690) rfl rfl ⟨by omega, by omega⟩ (fun c2 => ?_) (fun c2 => ?_)
    · have c2 := c2
      refine sKi (p := 695) rfl rfl ?_
      refine sCvQ (p := 698) (as := [_, _, _]) rfl rfl rfl rfl (by decide) (Nat.le_of_ble_eq_true rfl) rfl (Nat.le_of_ble_eq_true rfl) (sk_179 _) rfl (by omega) (hm) ?_
      rintro _ S2 ⟨rfl, hJ2⟩
      refine sCmpEq rfl ?_
      exact lw_next hq hJ2
    · have c2 := c2
      exfalso
      omega
  · have c1 := c1
    refine sKi (p := 661) rfl rfl ?_
    refine sL (i := .goto 4) rfl rfl ?_
    refine sCvQ (p := 668) (as := [_, _, _]) rfl rfl rfl rfl (by decide) (Nat.le_of_ble_eq_true rfl) rfl (Nat.le_of_ble_eq_true rfl) (sk_0 _) rfl (by omega) (P_Quant (all := true) hJ r1 r2) ?_
    rintro _ S1 ⟨z, rfl, hm⟩
    refine sL (pc' := 669) (i := .aload_n 2) rfl rfl ?_
    refine sL (pc' := 670) (i := .aload_n 0) rfl rfl ?_
    refine sL (pc' := 672) (i := .iload 4) rfl rfl ?_
    refine sKi (p := 673) rfl rfl ?_
    refine sAd (p := 674) rfl rfl ?_
    refine sSa (p := 675) (j := 6 * k + 1) rfl rfl (by omega) ⟨by omega, by omega⟩ e1 ?_
    refine sL (pc' := 676) (i := .aload_n 0) rfl rfl ?_
    refine sL (pc' := 678) (i := .iload 4) rfl rfl ?_
    refine sKi (p := 679) rfl rfl ?_
    refine sAd (p := 680) rfl rfl ?_
    refine sSa (p := 681) (j := 6 * k + 2) rfl rfl (by omega) ⟨by omega, by omega⟩ e2 ?_
    refine sL (pc' := 682) (i := .aload_n 0) rfl rfl ?_
    refine sL (pc' := 684) (i := .iload 4) rfl rfl ?_
    refine sKi (p := 685) rfl rfl ?_
    refine sAd (p := 686) rfl rfl ?_
    refine sSa (p := 687) (j := 6 * k + 3) rfl rfl (by omega) ⟨by omega, by omega⟩ e3 ?_
    refine sIf_eq (p := 690) rfl rfl ⟨by omega, by omega⟩ (fun c3 => ?_) (fun c3 => ?_)
    · have c3 := c3
      exfalso
      omega
    · have c3 := c3
      refine sKi (p := 691) rfl rfl ?_
      refine sL (i := .goto 4) rfl rfl ?_
      refine sCvQ (p := 698) (as := [_, _, _]) rfl rfl rfl rfl (by decide) (Nat.le_of_ble_eq_true rfl) rfl (Nat.le_of_ble_eq_true rfl) (sk_179 _) rfl (by omega) (hm) ?_
      rintro _ S2 ⟨rfl, hJ2⟩
      refine sCmpEq rfl ?_
      exact lw_next hq hJ2
set_option maxRecDepth 100000 in
theorem lc_substitute (hk : 6 * k + 6 ≤ X.length) (hX : X.length ≤ 384) (hJ : JI S) (hq : ∀ S', JI S' → K 23 [some (.retAddr 0), some (.ref 0), some (.ref 179), some (.ref 202), some (.int (iI ((6 * k + 6 : Nat) : Int))), none, none] [] S') : sT X 170 334 703 [some (.retAddr 0), some (.ref 0), some (.ref 179), some (.ref 202), some (.int (iI ((6 * k : Nat) : Int))), none, none] [] S K := by
  obtain ⟨z1, e1⟩ : ∃ z, (X.getD (6 * k + 1) 0).toInt = z := ⟨_, rfl⟩
  have r1 : rg z1 := by rw [← e1]; exact tI_rg _
  have ra1 := r1.1
  have rb1 := r1.2
  obtain ⟨z2, e2⟩ : ∃ z, (X.getD (6 * k + 2) 0).toInt = z := ⟨_, rfl⟩
  have r2 : rg z2 := by rw [← e2]; exact tI_rg _
  have ra2 := r2.1
  have rb2 := r2.2
  obtain ⟨z3, e3⟩ : ∃ z, (X.getD (6 * k + 3) 0).toInt = z := ⟨_, rfl⟩
  have r3 : rg z3 := by rw [← e3]; exact tI_rg _
  have ra3 := r3.1
  have rb3 := r3.2
  refine sL (pc' := 704) (i := .aload_n 1) rfl rfl ?_
  refine sL (pc' := 705) (i := .aload_n 0) rfl rfl ?_
  refine sL (pc' := 707) (i := .iload 4) rfl rfl ?_
  refine sKi (p := 708) rfl rfl ?_
  refine sAd (p := 709) rfl rfl ?_
  refine sSa (p := 710) (j := 6 * k + 1) rfl rfl (by omega) ⟨by omega, by omega⟩ e1 ?_
  refine sL (pc' := 711) (i := .aload_n 0) rfl rfl ?_
  refine sL (pc' := 713) (i := .iload 4) rfl rfl ?_
  refine sKi (p := 714) rfl rfl ?_
  refine sAd (p := 715) rfl rfl ?_
  refine sSa (p := 716) (j := 6 * k + 2) rfl rfl (by omega) ⟨by omega, by omega⟩ e2 ?_
  refine sL (pc' := 717) (i := .aload_n 0) rfl rfl ?_
  refine sL (pc' := 719) (i := .iload 4) rfl rfl ?_
  refine sKi (p := 720) rfl rfl ?_
  refine sAd (p := 721) rfl rfl ?_
  refine sSa (p := 722) (j := 6 * k + 3) rfl rfl (by omega) ⟨by omega, by omega⟩ e3 ?_
  refine sCvQ (p := 725) (as := [_, _, _]) rfl rfl rfl rfl (by decide) (Nat.le_of_ble_eq_true rfl) rfl (Nat.le_of_ble_eq_true rfl) (sk_0 _) rfl (by omega) (P_Subst hJ r1 r2 r3) ?_
  rintro _ S1 ⟨z, rfl, hm⟩
  refine sL (pc' := 726) (i := .aload_n 2) rfl rfl ?_
  refine sL (pc' := 727) (i := .aload_n 0) rfl rfl ?_
  refine sL (pc' := 729) (i := .iload 4) rfl rfl ?_
  refine sKi (p := 730) rfl rfl ?_
  refine sAd (p := 731) rfl rfl ?_
  refine sSa (p := 732) (j := 6 * k + 1) rfl rfl (by omega) ⟨by omega, by omega⟩ e1 ?_
  refine sL (pc' := 733) (i := .aload_n 0) rfl rfl ?_
  refine sL (pc' := 735) (i := .iload 4) rfl rfl ?_
  refine sKi (p := 736) rfl rfl ?_
  refine sAd (p := 737) rfl rfl ?_
  refine sSa (p := 738) (j := 6 * k + 2) rfl rfl (by omega) ⟨by omega, by omega⟩ e2 ?_
  refine sL (pc' := 739) (i := .aload_n 0) rfl rfl ?_
  refine sL (pc' := 741) (i := .iload 4) rfl rfl ?_
  refine sKi (p := 742) rfl rfl ?_
  refine sAd (p := 743) rfl rfl ?_
  refine sSa (p := 744) (j := 6 * k + 3) rfl rfl (by omega) ⟨by omega, by omega⟩ e3 ?_
  refine sCvQ (p := 747) (as := [_, _, _]) rfl rfl rfl rfl (by decide) (Nat.le_of_ble_eq_true rfl) rfl (Nat.le_of_ble_eq_true rfl) (sk_179 _) rfl (by omega) (hm) ?_
  rintro _ S2 ⟨rfl, hJ2⟩
  refine sCmpEq rfl ?_
  exact lw_next hq hJ2
set_option maxRecDepth 100000 in
theorem lc_exchange (hk : 6 * k + 6 ≤ X.length) (hX : X.length ≤ 384) (hJ : JI S) (hq : ∀ S', JI S' → K 23 [some (.retAddr 0), some (.ref 0), some (.ref 179), some (.ref 202), some (.int (iI ((6 * k + 6 : Nat) : Int))), none, none] [] S') : sT X 170 334 752 [some (.retAddr 0), some (.ref 0), some (.ref 179), some (.ref 202), some (.int (iI ((6 * k : Nat) : Int))), none, none] [] S K := by
  obtain ⟨z1, e1⟩ : ∃ z, (X.getD (6 * k + 1) 0).toInt = z := ⟨_, rfl⟩
  have r1 : rg z1 := by rw [← e1]; exact tI_rg _
  have ra1 := r1.1
  have rb1 := r1.2
  obtain ⟨z2, e2⟩ : ∃ z, (X.getD (6 * k + 2) 0).toInt = z := ⟨_, rfl⟩
  have r2 : rg z2 := by rw [← e2]; exact tI_rg _
  have ra2 := r2.1
  have rb2 := r2.2
  obtain ⟨z3, e3⟩ : ∃ z, (X.getD (6 * k + 3) 0).toInt = z := ⟨_, rfl⟩
  have r3 : rg z3 := by rw [← e3]; exact tI_rg _
  have ra3 := r3.1
  have rb3 := r3.2
  refine sL (pc' := 753) (i := .aload_n 1) rfl rfl ?_
  refine sL (pc' := 754) (i := .aload_n 0) rfl rfl ?_
  refine sL (pc' := 756) (i := .iload 4) rfl rfl ?_
  refine sKi (p := 757) rfl rfl ?_
  refine sAd (p := 758) rfl rfl ?_
  refine sSa (p := 759) (j := 6 * k + 1) rfl rfl (by omega) ⟨by omega, by omega⟩ e1 ?_
  refine sL (pc' := 760) (i := .aload_n 0) rfl rfl ?_
  refine sL (pc' := 762) (i := .iload 4) rfl rfl ?_
  refine sKi (p := 763) rfl rfl ?_
  refine sAd (p := 764) rfl rfl ?_
  refine sSa (p := 765) (j := 6 * k + 2) rfl rfl (by omega) ⟨by omega, by omega⟩ e2 ?_
  refine sL (pc' := 766) (i := .aload_n 0) rfl rfl ?_
  refine sL (pc' := 768) (i := .iload 4) rfl rfl ?_
  refine sKi (p := 769) rfl rfl ?_
  refine sAd (p := 770) rfl rfl ?_
  refine sSa (p := 771) (j := 6 * k + 3) rfl rfl (by omega) ⟨by omega, by omega⟩ e3 ?_
  refine sCvQ (p := 774) (as := [_, _, _]) rfl rfl rfl rfl (by decide) (Nat.le_of_ble_eq_true rfl) rfl (Nat.le_of_ble_eq_true rfl) (sk_0 _) rfl (by omega) (P_Exch hJ r1 r2 r3) ?_
  rintro _ S1 ⟨z, rfl, hm⟩
  refine sL (pc' := 775) (i := .aload_n 2) rfl rfl ?_
  refine sL (pc' := 776) (i := .aload_n 0) rfl rfl ?_
  refine sL (pc' := 778) (i := .iload 4) rfl rfl ?_
  refine sKi (p := 779) rfl rfl ?_
  refine sAd (p := 780) rfl rfl ?_
  refine sSa (p := 781) (j := 6 * k + 1) rfl rfl (by omega) ⟨by omega, by omega⟩ e1 ?_
  refine sL (pc' := 782) (i := .aload_n 0) rfl rfl ?_
  refine sL (pc' := 784) (i := .iload 4) rfl rfl ?_
  refine sKi (p := 785) rfl rfl ?_
  refine sAd (p := 786) rfl rfl ?_
  refine sSa (p := 787) (j := 6 * k + 2) rfl rfl (by omega) ⟨by omega, by omega⟩ e2 ?_
  refine sL (pc' := 788) (i := .aload_n 0) rfl rfl ?_
  refine sL (pc' := 790) (i := .iload 4) rfl rfl ?_
  refine sKi (p := 791) rfl rfl ?_
  refine sAd (p := 792) rfl rfl ?_
  refine sSa (p := 793) (j := 6 * k + 3) rfl rfl (by omega) ⟨by omega, by omega⟩ e3 ?_
  refine sCvQ (p := 796) (as := [_, _, _]) rfl rfl rfl rfl (by decide) (Nat.le_of_ble_eq_true rfl) rfl (Nat.le_of_ble_eq_true rfl) (sk_179 _) rfl (by omega) (hm) ?_
  rintro _ S2 ⟨rfl, hJ2⟩
  refine sCmpEq rfl ?_
  exact lw_next hq hJ2
set_option maxRecDepth 100000 in
theorem lc_read (hk : 6 * k + 6 ≤ X.length) (hX : X.length ≤ 384) (hJ : JI S) (hY : SYM X) (hq : ∀ S', JI S' → K 23 [some (.retAddr 0), some (.ref 0), some (.ref 179), some (.ref 202), some (.int (iI ((6 * k + 6 : Nat) : Int))), none, none] [] S') : sT X 170 334 941 [some (.retAddr 0), some (.ref 0), some (.ref 179), some (.ref 202), some (.int (iI ((6 * k : Nat) : Int))), none, none] [] S K := by
  obtain ⟨z1, e1⟩ : ∃ z, (X.getD (6 * k + 1) 0).toInt = z := ⟨_, rfl⟩
  have r1 : rg z1 := by rw [← e1]; exact tI_rg _
  have ra1 := r1.1
  have rb1 := r1.2
  obtain ⟨z2, e2⟩ : ∃ z, (X.getD (6 * k + 2) 0).toInt = z := ⟨_, rfl⟩
  have r2 : rg z2 := by rw [← e2]; exact tI_rg _
  have ra2 := r2.1
  have rb2 := r2.2
  obtain ⟨z3, e3⟩ : ∃ z, (X.getD (6 * k + 3) 0).toInt = z := ⟨_, rfl⟩
  have r3 : rg z3 := by rw [← e3]; exact tI_rg _
  have ra3 := r3.1
  have rb3 := r3.2
  refine sL (pc' := 942) (i := .aload_n 1) rfl rfl ?_
  refine sCvQ (p := 945) (as := []) rfl rfl rfl rfl (by decide) (Nat.le_of_ble_eq_true rfl) rfl (Nat.le_of_ble_eq_true rfl) (sk_0 _) rfl (by omega) (P_Read hJ hY) ?_
  rintro _ S1 ⟨z, rfl, hm⟩
  refine sL (pc' := 946) (i := .aload_n 2) rfl rfl ?_
  refine sCvQ (p := 949) (as := []) rfl rfl rfl rfl (by decide) (Nat.le_of_ble_eq_true rfl) rfl (Nat.le_of_ble_eq_true rfl) (sk_179 _) rfl (by omega) (hm) ?_
  rintro _ S2 ⟨rfl, hJ2⟩
  refine sCmpEq rfl ?_
  exact lw_next hq hJ2
set_option maxRecDepth 100000 in
theorem lc_fault (hk : 6 * k + 6 ≤ X.length) (hX : X.length ≤ 384) (hJ : JI S) (hq : ∀ S', JI S' → K 23 [some (.retAddr 0), some (.ref 0), some (.ref 179), some (.ref 202), some (.int (iI ((6 * k + 6 : Nat) : Int))), none, none] [] S') : sT X 170 334 954 [some (.retAddr 0), some (.ref 0), some (.ref 179), some (.ref 202), some (.int (iI ((6 * k : Nat) : Int))), none, none] [] S K := by
  obtain ⟨z1, e1⟩ : ∃ z, (X.getD (6 * k + 1) 0).toInt = z := ⟨_, rfl⟩
  have r1 : rg z1 := by rw [← e1]; exact tI_rg _
  have ra1 := r1.1
  have rb1 := r1.2
  obtain ⟨z2, e2⟩ : ∃ z, (X.getD (6 * k + 2) 0).toInt = z := ⟨_, rfl⟩
  have r2 : rg z2 := by rw [← e2]; exact tI_rg _
  have ra2 := r2.1
  have rb2 := r2.2
  obtain ⟨z3, e3⟩ : ∃ z, (X.getD (6 * k + 3) 0).toInt = z := ⟨_, rfl⟩
  have r3 : rg z3 := by rw [← e3]; exact tI_rg _
  have ra3 := r3.1
  have rb3 := r3.2
  refine sL (pc' := 955) (i := .aload_n 1) rfl rfl ?_
  refine sCvQ (p := 958) (as := []) rfl rfl rfl rfl (by decide) (Nat.le_of_ble_eq_true rfl) rfl (Nat.le_of_ble_eq_true rfl) (sk_0 _) rfl (by omega) (P_Fault hJ) ?_
  rintro _ S1 ⟨z, rfl, hm⟩
  refine sL (pc' := 959) (i := .aload_n 2) rfl rfl ?_
  refine sCvQ (p := 962) (as := []) rfl rfl rfl rfl (by decide) (Nat.le_of_ble_eq_true rfl) rfl (Nat.le_of_ble_eq_true rfl) (sk_179 _) rfl (by omega) (hm) ?_
  rintro _ S2 ⟨rfl, hJ2⟩
  refine sCmpEq rfl ?_
  exact lw_next hq hJ2
set_option maxRecDepth 100000 in
theorem lc_named (hk : 6 * k + 6 ≤ X.length) (hX : X.length ≤ 384) (hJ : JI S) (hY : SYM X) (hq : ∀ S', JI S' → K 23 [some (.retAddr 0), some (.ref 0), some (.ref 179), some (.ref 202), some (.int (iI ((6 * k + 6 : Nat) : Int))), none, none] [] S') : sT X 170 334 967 [some (.retAddr 0), some (.ref 0), some (.ref 179), some (.ref 202), some (.int (iI ((6 * k : Nat) : Int))), none, none] [] S K := by
  obtain ⟨z1, e1⟩ : ∃ z, (X.getD (6 * k + 1) 0).toInt = z := ⟨_, rfl⟩
  have r1 : rg z1 := by rw [← e1]; exact tI_rg _
  have ra1 := r1.1
  have rb1 := r1.2
  obtain ⟨z2, e2⟩ : ∃ z, (X.getD (6 * k + 2) 0).toInt = z := ⟨_, rfl⟩
  have r2 : rg z2 := by rw [← e2]; exact tI_rg _
  have ra2 := r2.1
  have rb2 := r2.2
  obtain ⟨z3, e3⟩ : ∃ z, (X.getD (6 * k + 3) 0).toInt = z := ⟨_, rfl⟩
  have r3 : rg z3 := by rw [← e3]; exact tI_rg _
  have ra3 := r3.1
  have rb3 := r3.2
  refine sL (pc' := 968) (i := .aload_n 1) rfl rfl ?_
  refine sCvQ (p := 971) (as := []) rfl rfl rfl rfl (by decide) (Nat.le_of_ble_eq_true rfl) rfl (Nat.le_of_ble_eq_true rfl) (sk_0 _) rfl (by omega) (P_Named hJ hY) ?_
  rintro _ S1 ⟨z, rfl, hm⟩
  refine sL (pc' := 972) (i := .aload_n 2) rfl rfl ?_
  refine sCvQ (p := 975) (as := []) rfl rfl rfl rfl (by decide) (Nat.le_of_ble_eq_true rfl) rfl (Nat.le_of_ble_eq_true rfl) (sk_179 _) rfl (by omega) (hm) ?_
  rintro _ S2 ⟨rfl, hJ2⟩
  refine sCmpEq rfl ?_
  exact lw_next hq hJ2
set_option maxRecDepth 100000 in
theorem lc_runs (hk : 6 * k + 6 ≤ X.length) (hX : X.length ≤ 384) (hJ : JI S) (hq : ∀ S', JI S' → K 23 [some (.retAddr 0), some (.ref 0), some (.ref 179), some (.ref 202), some (.int (iI ((6 * k + 6 : Nat) : Int))), none, none] [] S') : sT X 170 334 980 [some (.retAddr 0), some (.ref 0), some (.ref 179), some (.ref 202), some (.int (iI ((6 * k : Nat) : Int))), none, none] [] S K := by
  obtain ⟨z1, e1⟩ : ∃ z, (X.getD (6 * k + 1) 0).toInt = z := ⟨_, rfl⟩
  have r1 : rg z1 := by rw [← e1]; exact tI_rg _
  have ra1 := r1.1
  have rb1 := r1.2
  obtain ⟨z2, e2⟩ : ∃ z, (X.getD (6 * k + 2) 0).toInt = z := ⟨_, rfl⟩
  have r2 : rg z2 := by rw [← e2]; exact tI_rg _
  have ra2 := r2.1
  have rb2 := r2.2
  obtain ⟨z3, e3⟩ : ∃ z, (X.getD (6 * k + 3) 0).toInt = z := ⟨_, rfl⟩
  have r3 : rg z3 := by rw [← e3]; exact tI_rg _
  have ra3 := r3.1
  have rb3 := r3.2
  refine sL (pc' := 981) (i := .aload_n 1) rfl rfl ?_
  refine sL (pc' := 982) (i := .aload_n 0) rfl rfl ?_
  refine sL (pc' := 984) (i := .iload 4) rfl rfl ?_
  refine sKi (p := 985) rfl rfl ?_
  refine sAd (p := 986) rfl rfl ?_
  refine sSa (p := 987) (j := 6 * k + 1) rfl rfl (by omega) ⟨by omega, by omega⟩ e1 ?_
  refine sCvQ (p := 990) (as := [_]) rfl rfl rfl rfl (by decide) (Nat.le_of_ble_eq_true rfl) rfl (Nat.le_of_ble_eq_true rfl) (sk_0 _) rfl (by omega) (P_Runs hJ r1) ?_
  rintro _ S1 ⟨z, rfl, hm⟩
  refine sL (pc' := 991) (i := .aload_n 2) rfl rfl ?_
  refine sL (pc' := 992) (i := .aload_n 0) rfl rfl ?_
  refine sL (pc' := 994) (i := .iload 4) rfl rfl ?_
  refine sKi (p := 995) rfl rfl ?_
  refine sAd (p := 996) rfl rfl ?_
  refine sSa (p := 997) (j := 6 * k + 1) rfl rfl (by omega) ⟨by omega, by omega⟩ e1 ?_
  refine sCvQ (p := 1000) (as := [_]) rfl rfl rfl rfl (by decide) (Nat.le_of_ble_eq_true rfl) rfl (Nat.le_of_ble_eq_true rfl) (sk_179 _) rfl (by omega) (hm) ?_
  rintro _ S2 ⟨rfl, hJ2⟩
  refine sCmpEq rfl ?_
  exact lw_next hq hJ2
set_option maxRecDepth 100000 in
theorem lc_alike (hk : 6 * k + 6 ≤ X.length) (hX : X.length ≤ 384) (hJ : JI S) (hq : ∀ S', JI S' → K 23 [some (.retAddr 0), some (.ref 0), some (.ref 179), some (.ref 202), some (.int (iI ((6 * k + 6 : Nat) : Int))), none, none] [] S') : sT X 170 334 1005 [some (.retAddr 0), some (.ref 0), some (.ref 179), some (.ref 202), some (.int (iI ((6 * k : Nat) : Int))), none, none] [] S K := by
  obtain ⟨z1, e1⟩ : ∃ z, (X.getD (6 * k + 1) 0).toInt = z := ⟨_, rfl⟩
  have r1 : rg z1 := by rw [← e1]; exact tI_rg _
  have ra1 := r1.1
  have rb1 := r1.2
  obtain ⟨z2, e2⟩ : ∃ z, (X.getD (6 * k + 2) 0).toInt = z := ⟨_, rfl⟩
  have r2 : rg z2 := by rw [← e2]; exact tI_rg _
  have ra2 := r2.1
  have rb2 := r2.2
  obtain ⟨z3, e3⟩ : ∃ z, (X.getD (6 * k + 3) 0).toInt = z := ⟨_, rfl⟩
  have r3 : rg z3 := by rw [← e3]; exact tI_rg _
  have ra3 := r3.1
  have rb3 := r3.2
  refine sL (pc' := 1006) (i := .aload_n 1) rfl rfl ?_
  refine sL (pc' := 1007) (i := .aload_n 0) rfl rfl ?_
  refine sL (pc' := 1009) (i := .iload 4) rfl rfl ?_
  refine sKi (p := 1010) rfl rfl ?_
  refine sAd (p := 1011) rfl rfl ?_
  refine sSa (p := 1012) (j := 6 * k + 1) rfl rfl (by omega) ⟨by omega, by omega⟩ e1 ?_
  refine sL (pc' := 1013) (i := .aload_n 0) rfl rfl ?_
  refine sL (pc' := 1015) (i := .iload 4) rfl rfl ?_
  refine sKi (p := 1016) rfl rfl ?_
  refine sAd (p := 1017) rfl rfl ?_
  refine sSa (p := 1018) (j := 6 * k + 2) rfl rfl (by omega) ⟨by omega, by omega⟩ e2 ?_
  refine sCvQ (p := 1021) (as := [_, _]) rfl rfl rfl rfl (by decide) (Nat.le_of_ble_eq_true rfl) rfl (Nat.le_of_ble_eq_true rfl) (sk_0 _) rfl (by omega) (P_Alike hJ r1 r2) ?_
  rintro _ S1 ⟨z, rfl, hm⟩
  refine sL (pc' := 1022) (i := .aload_n 2) rfl rfl ?_
  refine sL (pc' := 1023) (i := .aload_n 0) rfl rfl ?_
  refine sL (pc' := 1025) (i := .iload 4) rfl rfl ?_
  refine sKi (p := 1026) rfl rfl ?_
  refine sAd (p := 1027) rfl rfl ?_
  refine sSa (p := 1028) (j := 6 * k + 1) rfl rfl (by omega) ⟨by omega, by omega⟩ e1 ?_
  refine sL (pc' := 1029) (i := .aload_n 0) rfl rfl ?_
  refine sL (pc' := 1031) (i := .iload 4) rfl rfl ?_
  refine sKi (p := 1032) rfl rfl ?_
  refine sAd (p := 1033) rfl rfl ?_
  refine sSa (p := 1034) (j := 6 * k + 2) rfl rfl (by omega) ⟨by omega, by omega⟩ e2 ?_
  refine sCvQ (p := 1037) (as := [_, _]) rfl rfl rfl rfl (by decide) (Nat.le_of_ble_eq_true rfl) rfl (Nat.le_of_ble_eq_true rfl) (sk_179 _) rfl (by omega) (hm) ?_
  rintro _ S2 ⟨rfl, hJ2⟩
  refine sCmpEq rfl ?_
  exact lw_next hq hJ2
set_option maxRecDepth 100000 in
theorem lc_depends (hk : 6 * k + 6 ≤ X.length) (hX : X.length ≤ 384) (hJ : JI S) (hq : ∀ S', JI S' → K 23 [some (.retAddr 0), some (.ref 0), some (.ref 179), some (.ref 202), some (.int (iI ((6 * k + 6 : Nat) : Int))), none, none] [] S') : sT X 170 334 1042 [some (.retAddr 0), some (.ref 0), some (.ref 179), some (.ref 202), some (.int (iI ((6 * k : Nat) : Int))), none, none] [] S K := by
  obtain ⟨z1, e1⟩ : ∃ z, (X.getD (6 * k + 1) 0).toInt = z := ⟨_, rfl⟩
  have r1 : rg z1 := by rw [← e1]; exact tI_rg _
  have ra1 := r1.1
  have rb1 := r1.2
  obtain ⟨z2, e2⟩ : ∃ z, (X.getD (6 * k + 2) 0).toInt = z := ⟨_, rfl⟩
  have r2 : rg z2 := by rw [← e2]; exact tI_rg _
  have ra2 := r2.1
  have rb2 := r2.2
  obtain ⟨z3, e3⟩ : ∃ z, (X.getD (6 * k + 3) 0).toInt = z := ⟨_, rfl⟩
  have r3 : rg z3 := by rw [← e3]; exact tI_rg _
  have ra3 := r3.1
  have rb3 := r3.2
  refine sL (pc' := 1043) (i := .aload_n 1) rfl rfl ?_
  refine sL (pc' := 1044) (i := .aload_n 0) rfl rfl ?_
  refine sL (pc' := 1046) (i := .iload 4) rfl rfl ?_
  refine sKi (p := 1047) rfl rfl ?_
  refine sAd (p := 1048) rfl rfl ?_
  refine sSa (p := 1049) (j := 6 * k + 1) rfl rfl (by omega) ⟨by omega, by omega⟩ e1 ?_
  refine sL (pc' := 1050) (i := .aload_n 0) rfl rfl ?_
  refine sL (pc' := 1052) (i := .iload 4) rfl rfl ?_
  refine sKi (p := 1053) rfl rfl ?_
  refine sAd (p := 1054) rfl rfl ?_
  refine sSa (p := 1055) (j := 6 * k + 2) rfl rfl (by omega) ⟨by omega, by omega⟩ e2 ?_
  refine sCvQ (p := 1058) (as := [_, _]) rfl rfl rfl rfl (by decide) (Nat.le_of_ble_eq_true rfl) rfl (Nat.le_of_ble_eq_true rfl) (sk_0 _) rfl (by omega) (P_Dep hJ r1 r2) ?_
  rintro _ S1 ⟨z, rfl, hm⟩
  refine sL (pc' := 1059) (i := .aload_n 2) rfl rfl ?_
  refine sL (pc' := 1060) (i := .aload_n 0) rfl rfl ?_
  refine sL (pc' := 1062) (i := .iload 4) rfl rfl ?_
  refine sKi (p := 1063) rfl rfl ?_
  refine sAd (p := 1064) rfl rfl ?_
  refine sSa (p := 1065) (j := 6 * k + 1) rfl rfl (by omega) ⟨by omega, by omega⟩ e1 ?_
  refine sL (pc' := 1066) (i := .aload_n 0) rfl rfl ?_
  refine sL (pc' := 1068) (i := .iload 4) rfl rfl ?_
  refine sKi (p := 1069) rfl rfl ?_
  refine sAd (p := 1070) rfl rfl ?_
  refine sSa (p := 1071) (j := 6 * k + 2) rfl rfl (by omega) ⟨by omega, by omega⟩ e2 ?_
  refine sCvQ (p := 1074) (as := [_, _]) rfl rfl rfl rfl (by decide) (Nat.le_of_ble_eq_true rfl) rfl (Nat.le_of_ble_eq_true rfl) (sk_179 _) rfl (by omega) (hm) ?_
  rintro _ S2 ⟨rfl, hJ2⟩
  refine sCmpEq rfl ?_
  exact lw_next hq hJ2
set_option maxRecDepth 100000 in
theorem lc_size (hk : 6 * k + 6 ≤ X.length) (hX : X.length ≤ 384) (hJ : JI S) (hq : ∀ S', JI S' → K 23 [some (.retAddr 0), some (.ref 0), some (.ref 179), some (.ref 202), some (.int (iI ((6 * k + 6 : Nat) : Int))), none, none] [] S') : sT X 170 334 1079 [some (.retAddr 0), some (.ref 0), some (.ref 179), some (.ref 202), some (.int (iI ((6 * k : Nat) : Int))), none, none] [] S K := by
  obtain ⟨z1, e1⟩ : ∃ z, (X.getD (6 * k + 1) 0).toInt = z := ⟨_, rfl⟩
  have r1 : rg z1 := by rw [← e1]; exact tI_rg _
  have ra1 := r1.1
  have rb1 := r1.2
  obtain ⟨z2, e2⟩ : ∃ z, (X.getD (6 * k + 2) 0).toInt = z := ⟨_, rfl⟩
  have r2 : rg z2 := by rw [← e2]; exact tI_rg _
  have ra2 := r2.1
  have rb2 := r2.2
  obtain ⟨z3, e3⟩ : ∃ z, (X.getD (6 * k + 3) 0).toInt = z := ⟨_, rfl⟩
  have r3 : rg z3 := by rw [← e3]; exact tI_rg _
  have ra3 := r3.1
  have rb3 := r3.2
  refine sL (pc' := 1080) (i := .aload_n 1) rfl rfl ?_
  refine sL (pc' := 1081) (i := .aload_n 0) rfl rfl ?_
  refine sL (pc' := 1083) (i := .iload 4) rfl rfl ?_
  refine sKi (p := 1084) rfl rfl ?_
  refine sAd (p := 1085) rfl rfl ?_
  refine sSa (p := 1086) (j := 6 * k + 1) rfl rfl (by omega) ⟨by omega, by omega⟩ e1 ?_
  refine sCvQ (p := 1089) (as := [_]) rfl rfl rfl rfl (by decide) (Nat.le_of_ble_eq_true rfl) rfl (Nat.le_of_ble_eq_true rfl) (sk_0 _) rfl (by omega) (P_Size hJ r1) ?_
  rintro _ S1 ⟨z, rfl, hm⟩
  refine sL (pc' := 1090) (i := .aload_n 2) rfl rfl ?_
  refine sL (pc' := 1091) (i := .aload_n 0) rfl rfl ?_
  refine sL (pc' := 1093) (i := .iload 4) rfl rfl ?_
  refine sKi (p := 1094) rfl rfl ?_
  refine sAd (p := 1095) rfl rfl ?_
  refine sSa (p := 1096) (j := 6 * k + 1) rfl rfl (by omega) ⟨by omega, by omega⟩ e1 ?_
  refine sCvQ (p := 1099) (as := [_]) rfl rfl rfl rfl (by decide) (Nat.le_of_ble_eq_true rfl) rfl (Nat.le_of_ble_eq_true rfl) (sk_179 _) rfl (by omega) (hm) ?_
  rintro _ S2 ⟨rfl, hJ2⟩
  refine sCmpEq rfl ?_
  exact lw_next hq hJ2
set_option maxRecDepth 100000 in
theorem lc_ways (hk : 6 * k + 6 ≤ X.length) (hX : X.length ≤ 384) (hJ : JI S) (hq : ∀ S', JI S' → K 23 [some (.retAddr 0), some (.ref 0), some (.ref 179), some (.ref 202), some (.int (iI ((6 * k + 6 : Nat) : Int))), none, none] [] S') : sT X 170 334 1104 [some (.retAddr 0), some (.ref 0), some (.ref 179), some (.ref 202), some (.int (iI ((6 * k : Nat) : Int))), none, none] [] S K := by
  obtain ⟨z1, e1⟩ : ∃ z, (X.getD (6 * k + 1) 0).toInt = z := ⟨_, rfl⟩
  have r1 : rg z1 := by rw [← e1]; exact tI_rg _
  have ra1 := r1.1
  have rb1 := r1.2
  obtain ⟨z2, e2⟩ : ∃ z, (X.getD (6 * k + 2) 0).toInt = z := ⟨_, rfl⟩
  have r2 : rg z2 := by rw [← e2]; exact tI_rg _
  have ra2 := r2.1
  have rb2 := r2.2
  obtain ⟨z3, e3⟩ : ∃ z, (X.getD (6 * k + 3) 0).toInt = z := ⟨_, rfl⟩
  have r3 : rg z3 := by rw [← e3]; exact tI_rg _
  have ra3 := r3.1
  have rb3 := r3.2
  refine sL (pc' := 1105) (i := .aload_n 1) rfl rfl ?_
  refine sL (pc' := 1106) (i := .aload_n 0) rfl rfl ?_
  refine sL (pc' := 1108) (i := .iload 4) rfl rfl ?_
  refine sKi (p := 1109) rfl rfl ?_
  refine sAd (p := 1110) rfl rfl ?_
  refine sSa (p := 1111) (j := 6 * k + 1) rfl rfl (by omega) ⟨by omega, by omega⟩ e1 ?_
  refine sCvQ (p := 1114) (as := [_]) rfl rfl rfl rfl (by decide) (Nat.le_of_ble_eq_true rfl) rfl (Nat.le_of_ble_eq_true rfl) (sk_0 _) rfl (by omega) (P_Ways hJ r1) ?_
  rintro _ S1 ⟨z, rfl, hm⟩
  refine sL (pc' := 1115) (i := .aload_n 2) rfl rfl ?_
  refine sL (pc' := 1116) (i := .aload_n 0) rfl rfl ?_
  refine sL (pc' := 1118) (i := .iload 4) rfl rfl ?_
  refine sKi (p := 1119) rfl rfl ?_
  refine sAd (p := 1120) rfl rfl ?_
  refine sSa (p := 1121) (j := 6 * k + 1) rfl rfl (by omega) ⟨by omega, by omega⟩ e1 ?_
  refine sCvQ (p := 1124) (as := [_]) rfl rfl rfl rfl (by decide) (Nat.le_of_ble_eq_true rfl) rfl (Nat.le_of_ble_eq_true rfl) (sk_179 _) rfl (by omega) (hm) ?_
  rintro _ S2 ⟨rfl, hJ2⟩
  refine sCmpEq rfl ?_
  exact lw_next hq hJ2
set_option maxRecDepth 100000 in
theorem lc_least (hk : 6 * k + 6 ≤ X.length) (hX : X.length ≤ 384) (hJ : JI S) (hq : ∀ S', JI S' → K 23 [some (.retAddr 0), some (.ref 0), some (.ref 179), some (.ref 202), some (.int (iI ((6 * k + 6 : Nat) : Int))), none, none] [] S') : sT X 170 334 1129 [some (.retAddr 0), some (.ref 0), some (.ref 179), some (.ref 202), some (.int (iI ((6 * k : Nat) : Int))), none, none] [] S K := by
  obtain ⟨z1, e1⟩ : ∃ z, (X.getD (6 * k + 1) 0).toInt = z := ⟨_, rfl⟩
  have r1 : rg z1 := by rw [← e1]; exact tI_rg _
  have ra1 := r1.1
  have rb1 := r1.2
  obtain ⟨z2, e2⟩ : ∃ z, (X.getD (6 * k + 2) 0).toInt = z := ⟨_, rfl⟩
  have r2 : rg z2 := by rw [← e2]; exact tI_rg _
  have ra2 := r2.1
  have rb2 := r2.2
  obtain ⟨z3, e3⟩ : ∃ z, (X.getD (6 * k + 3) 0).toInt = z := ⟨_, rfl⟩
  have r3 : rg z3 := by rw [← e3]; exact tI_rg _
  have ra3 := r3.1
  have rb3 := r3.2
  refine sL (pc' := 1130) (i := .aload_n 1) rfl rfl ?_
  refine sL (pc' := 1131) (i := .aload_n 0) rfl rfl ?_
  refine sL (pc' := 1133) (i := .iload 4) rfl rfl ?_
  refine sKi (p := 1134) rfl rfl ?_
  refine sAd (p := 1135) rfl rfl ?_
  refine sSa (p := 1136) (j := 6 * k + 1) rfl rfl (by omega) ⟨by omega, by omega⟩ e1 ?_
  refine sCvQ (p := 1139) (as := [_]) rfl rfl rfl rfl (by decide) (Nat.le_of_ble_eq_true rfl) rfl (Nat.le_of_ble_eq_true rfl) (sk_0 _) rfl (by omega) (P_Least hJ r1) ?_
  rintro _ S1 ⟨z, rfl, hm⟩
  refine sL (pc' := 1140) (i := .aload_n 2) rfl rfl ?_
  refine sL (pc' := 1141) (i := .aload_n 0) rfl rfl ?_
  refine sL (pc' := 1143) (i := .iload 4) rfl rfl ?_
  refine sKi (p := 1144) rfl rfl ?_
  refine sAd (p := 1145) rfl rfl ?_
  refine sSa (p := 1146) (j := 6 * k + 1) rfl rfl (by omega) ⟨by omega, by omega⟩ e1 ?_
  refine sCvQ (p := 1149) (as := [_]) rfl rfl rfl rfl (by decide) (Nat.le_of_ble_eq_true rfl) rfl (Nat.le_of_ble_eq_true rfl) (sk_179 _) rfl (by omega) (hm) ?_
  rintro _ S2 ⟨rfl, hJ2⟩
  refine sCmpEq rfl ?_
  exact lw_next hq hJ2
set_option maxRecDepth 100000 in
theorem lc_best (hk : 6 * k + 6 ≤ X.length) (hX : X.length ≤ 384) (hJ : JI S) (hq : ∀ S', JI S' → K 23 [some (.retAddr 0), some (.ref 0), some (.ref 179), some (.ref 202), some (.int (iI ((6 * k + 6 : Nat) : Int))), none, none] [] S') : sT X 170 334 1154 [some (.retAddr 0), some (.ref 0), some (.ref 179), some (.ref 202), some (.int (iI ((6 * k : Nat) : Int))), none, none] [] S K := by
  obtain ⟨z1, e1⟩ : ∃ z, (X.getD (6 * k + 1) 0).toInt = z := ⟨_, rfl⟩
  have r1 : rg z1 := by rw [← e1]; exact tI_rg _
  have ra1 := r1.1
  have rb1 := r1.2
  obtain ⟨z2, e2⟩ : ∃ z, (X.getD (6 * k + 2) 0).toInt = z := ⟨_, rfl⟩
  have r2 : rg z2 := by rw [← e2]; exact tI_rg _
  have ra2 := r2.1
  have rb2 := r2.2
  obtain ⟨z3, e3⟩ : ∃ z, (X.getD (6 * k + 3) 0).toInt = z := ⟨_, rfl⟩
  have r3 : rg z3 := by rw [← e3]; exact tI_rg _
  have ra3 := r3.1
  have rb3 := r3.2
  refine sL (pc' := 1155) (i := .aload_n 1) rfl rfl ?_
  refine sL (pc' := 1156) (i := .aload_n 0) rfl rfl ?_
  refine sL (pc' := 1158) (i := .iload 4) rfl rfl ?_
  refine sKi (p := 1159) rfl rfl ?_
  refine sAd (p := 1160) rfl rfl ?_
  refine sSa (p := 1161) (j := 6 * k + 1) rfl rfl (by omega) ⟨by omega, by omega⟩ e1 ?_
  refine sCvQ (p := 1164) (as := [_]) rfl rfl rfl rfl (by decide) (Nat.le_of_ble_eq_true rfl) rfl (Nat.le_of_ble_eq_true rfl) (sk_0 _) rfl (by omega) (P_Best hJ r1) ?_
  rintro _ S1 ⟨z, rfl, hm⟩
  refine sL (pc' := 1165) (i := .aload_n 2) rfl rfl ?_
  refine sL (pc' := 1166) (i := .aload_n 0) rfl rfl ?_
  refine sL (pc' := 1168) (i := .iload 4) rfl rfl ?_
  refine sKi (p := 1169) rfl rfl ?_
  refine sAd (p := 1170) rfl rfl ?_
  refine sSa (p := 1171) (j := 6 * k + 1) rfl rfl (by omega) ⟨by omega, by omega⟩ e1 ?_
  refine sCvQ (p := 1174) (as := [_]) rfl rfl rfl rfl (by decide) (Nat.le_of_ble_eq_true rfl) rfl (Nat.le_of_ble_eq_true rfl) (sk_179 _) rfl (by omega) (hm) ?_
  rintro _ S2 ⟨rfl, hJ2⟩
  refine sLq_eq (p := 1178) rfl rfl rfl (fun c1 => ?_) (fun c1 => ?_)
  · have c1 := c1
    exact lw_next hq hJ2
  · have c1 := c1
    exact absurd rfl c1
set_option maxRecDepth 100000 in
theorem lc_told (hk : 6 * k + 6 ≤ X.length) (hX : X.length ≤ 384) (hJ : JI S) (hq : ∀ S', JI S' → K 23 [some (.retAddr 0), some (.ref 0), some (.ref 179), some (.ref 202), some (.int (iI ((6 * k + 6 : Nat) : Int))), none, none] [] S') : sT X 170 334 1180 [some (.retAddr 0), some (.ref 0), some (.ref 179), some (.ref 202), some (.int (iI ((6 * k : Nat) : Int))), none, none] [] S K := by
  obtain ⟨z1, e1⟩ : ∃ z, (X.getD (6 * k + 1) 0).toInt = z := ⟨_, rfl⟩
  have r1 : rg z1 := by rw [← e1]; exact tI_rg _
  have ra1 := r1.1
  have rb1 := r1.2
  obtain ⟨z2, e2⟩ : ∃ z, (X.getD (6 * k + 2) 0).toInt = z := ⟨_, rfl⟩
  have r2 : rg z2 := by rw [← e2]; exact tI_rg _
  have ra2 := r2.1
  have rb2 := r2.2
  obtain ⟨z3, e3⟩ : ∃ z, (X.getD (6 * k + 3) 0).toInt = z := ⟨_, rfl⟩
  have r3 : rg z3 := by rw [← e3]; exact tI_rg _
  have ra3 := r3.1
  have rb3 := r3.2
  refine sL (pc' := 1181) (i := .aload_n 1) rfl rfl ?_
  refine sL (pc' := 1182) (i := .aload_n 0) rfl rfl ?_
  refine sL (pc' := 1184) (i := .iload 4) rfl rfl ?_
  refine sKi (p := 1185) rfl rfl ?_
  refine sAd (p := 1186) rfl rfl ?_
  refine sSa (p := 1187) (j := 6 * k + 1) rfl rfl (by omega) ⟨by omega, by omega⟩ e1 ?_
  refine sCvQ (p := 1190) (as := [_]) rfl rfl rfl rfl (by decide) (Nat.le_of_ble_eq_true rfl) rfl (Nat.le_of_ble_eq_true rfl) (sk_0 _) rfl (by omega) (P_Told hJ r1) ?_
  rintro _ S1 ⟨z, rfl, hm⟩
  refine sL (pc' := 1191) (i := .aload_n 2) rfl rfl ?_
  refine sL (pc' := 1192) (i := .aload_n 0) rfl rfl ?_
  refine sL (pc' := 1194) (i := .iload 4) rfl rfl ?_
  refine sKi (p := 1195) rfl rfl ?_
  refine sAd (p := 1196) rfl rfl ?_
  refine sSa (p := 1197) (j := 6 * k + 1) rfl rfl (by omega) ⟨by omega, by omega⟩ e1 ?_
  refine sCvQ (p := 1200) (as := [_]) rfl rfl rfl rfl (by decide) (Nat.le_of_ble_eq_true rfl) rfl (Nat.le_of_ble_eq_true rfl) (sk_179 _) rfl (by omega) (hm) ?_
  rintro _ S2 ⟨rfl, hJ2⟩
  refine sCmpEq rfl ?_
  exact lw_next hq hJ2
set_option maxRecDepth 100000 in
theorem lc_part (hk : 6 * k + 6 ≤ X.length) (hX : X.length ≤ 384) (hJ : JI S) (hq : ∀ S', JI S' → K 23 [some (.retAddr 0), some (.ref 0), some (.ref 179), some (.ref 202), some (.int (iI ((6 * k + 6 : Nat) : Int))), none, none] [] S') : sT X 170 334 1273 [some (.retAddr 0), some (.ref 0), some (.ref 179), some (.ref 202), some (.int (iI ((6 * k : Nat) : Int))), none, none] [] S K := by
  obtain ⟨z1, e1⟩ : ∃ z, (X.getD (6 * k + 1) 0).toInt = z := ⟨_, rfl⟩
  have r1 : rg z1 := by rw [← e1]; exact tI_rg _
  have ra1 := r1.1
  have rb1 := r1.2
  obtain ⟨z2, e2⟩ : ∃ z, (X.getD (6 * k + 2) 0).toInt = z := ⟨_, rfl⟩
  have r2 : rg z2 := by rw [← e2]; exact tI_rg _
  have ra2 := r2.1
  have rb2 := r2.2
  obtain ⟨z3, e3⟩ : ∃ z, (X.getD (6 * k + 3) 0).toInt = z := ⟨_, rfl⟩
  have r3 : rg z3 := by rw [← e3]; exact tI_rg _
  have ra3 := r3.1
  have rb3 := r3.2
  refine sL (pc' := 1274) (i := .aload_n 1) rfl rfl ?_
  refine sL (pc' := 1275) (i := .aload_n 0) rfl rfl ?_
  refine sL (pc' := 1277) (i := .iload 4) rfl rfl ?_
  refine sKi (p := 1278) rfl rfl ?_
  refine sAd (p := 1279) rfl rfl ?_
  refine sSa (p := 1280) (j := 6 * k + 1) rfl rfl (by omega) ⟨by omega, by omega⟩ e1 ?_
  refine sIf_eq (p := 1283) rfl rfl ⟨by omega, by omega⟩ (fun c1 => ?_) (fun c1 => ?_)
  · have c1 := c1
    refine sKi (p := 1288) rfl rfl ?_
    refine sCvQ (p := 1291) (as := [_]) rfl rfl rfl rfl (by decide) (Nat.le_of_ble_eq_true rfl) rfl (Nat.le_of_ble_eq_true rfl) (sk_0 _) rfl (by omega) (P_Part (q := false) hJ) ?_
    rintro _ S1 ⟨z, rfl, hm⟩
    refine sL (pc' := 1292) (i := .aload_n 2) rfl rfl ?_
    refine sL (pc' := 1293) (i := .aload_n 0) rfl rfl ?_
    refine sL (pc' := 1295) (i := .iload 4) rfl rfl ?_
    refine sKi (p := 1296) rfl rfl ?_
    refine sAd (p := 1297) rfl rfl ?_
    refine sSa (p := 1298) (j := 6 * k + 1) rfl rfl (by omega) ⟨by omega, by omega⟩ e1 ?_
    refine sIf_eq (p := 1301) rfl rfl ⟨by omega, by omega⟩ (fun c2 => ?_) (fun c2 => ?_)
    · have c2 := c2
      refine sKi (p := 1306) rfl rfl ?_
      refine sCvQ (p := 1309) (as := [_]) rfl rfl rfl rfl (by decide) (Nat.le_of_ble_eq_true rfl) rfl (Nat.le_of_ble_eq_true rfl) (sk_179 _) rfl (by omega) (hm) ?_
      rintro _ S2 ⟨rfl, hJ2⟩
      refine sLq_eq (p := 1313) rfl rfl rfl (fun c3 => ?_) (fun c3 => ?_)
      · have c3 := c3
        exact lw_next hq hJ2
      · have c3 := c3
        exact absurd rfl c3
    · have c2 := c2
      exfalso
      omega
  · have c1 := c1
    refine sKi (p := 1284) rfl rfl ?_
    refine sL (i := .goto 4) rfl rfl ?_
    refine sCvQ (p := 1291) (as := [_]) rfl rfl rfl rfl (by decide) (Nat.le_of_ble_eq_true rfl) rfl (Nat.le_of_ble_eq_true rfl) (sk_0 _) rfl (by omega) (P_Part (q := true) hJ) ?_
    rintro _ S1 ⟨z, rfl, hm⟩
    refine sL (pc' := 1292) (i := .aload_n 2) rfl rfl ?_
    refine sL (pc' := 1293) (i := .aload_n 0) rfl rfl ?_
    refine sL (pc' := 1295) (i := .iload 4) rfl rfl ?_
    refine sKi (p := 1296) rfl rfl ?_
    refine sAd (p := 1297) rfl rfl ?_
    refine sSa (p := 1298) (j := 6 * k + 1) rfl rfl (by omega) ⟨by omega, by omega⟩ e1 ?_
    refine sIf_eq (p := 1301) rfl rfl ⟨by omega, by omega⟩ (fun c4 => ?_) (fun c4 => ?_)
    · have c4 := c4
      exfalso
      omega
    · have c4 := c4
      refine sKi (p := 1302) rfl rfl ?_
      refine sL (i := .goto 4) rfl rfl ?_
      refine sCvQ (p := 1309) (as := [_]) rfl rfl rfl rfl (by decide) (Nat.le_of_ble_eq_true rfl) rfl (Nat.le_of_ble_eq_true rfl) (sk_179 _) rfl (by omega) (hm) ?_
      rintro _ S2 ⟨rfl, hJ2⟩
      refine sLq_eq (p := 1313) rfl rfl rfl (fun c5 => ?_) (fun c5 => ?_)
      · have c5 := c5
        exact lw_next hq hJ2
      · have c5 := c5
        exact absurd rfl c5
set_option maxRecDepth 100000 in
theorem lc_weigh (hk : 6 * k + 6 ≤ X.length) (hX : X.length ≤ 384) (hJ : JI S) (hq : ∀ S', JI S' → K 23 [some (.retAddr 0), some (.ref 0), some (.ref 179), some (.ref 202), some (.int (iI ((6 * k + 6 : Nat) : Int))), none, none] [] S') : sT X 170 334 1315 [some (.retAddr 0), some (.ref 0), some (.ref 179), some (.ref 202), some (.int (iI ((6 * k : Nat) : Int))), none, none] [] S K := by
  obtain ⟨z1, e1⟩ : ∃ z, (X.getD (6 * k + 1) 0).toInt = z := ⟨_, rfl⟩
  have r1 : rg z1 := by rw [← e1]; exact tI_rg _
  have ra1 := r1.1
  have rb1 := r1.2
  obtain ⟨z2, e2⟩ : ∃ z, (X.getD (6 * k + 2) 0).toInt = z := ⟨_, rfl⟩
  have r2 : rg z2 := by rw [← e2]; exact tI_rg _
  have ra2 := r2.1
  have rb2 := r2.2
  obtain ⟨z3, e3⟩ : ∃ z, (X.getD (6 * k + 3) 0).toInt = z := ⟨_, rfl⟩
  have r3 : rg z3 := by rw [← e3]; exact tI_rg _
  have ra3 := r3.1
  have rb3 := r3.2
  refine sL (pc' := 1316) (i := .aload_n 1) rfl rfl ?_
  refine sL (pc' := 1317) (i := .aload_n 0) rfl rfl ?_
  refine sL (pc' := 1319) (i := .iload 4) rfl rfl ?_
  refine sKi (p := 1320) rfl rfl ?_
  refine sAd (p := 1321) rfl rfl ?_
  refine sSa (p := 1322) (j := 6 * k + 1) rfl rfl (by omega) ⟨by omega, by omega⟩ e1 ?_
  refine sCvQ (p := 1325) (as := [_]) rfl rfl rfl rfl (by decide) (Nat.le_of_ble_eq_true rfl) rfl (Nat.le_of_ble_eq_true rfl) (sk_0 _) rfl (by omega) (P_Weigh hJ r1) ?_
  rintro _ S1 ⟨z, rfl, hm⟩
  refine sL (pc' := 1326) (i := .aload_n 2) rfl rfl ?_
  refine sL (pc' := 1327) (i := .aload_n 0) rfl rfl ?_
  refine sL (pc' := 1329) (i := .iload 4) rfl rfl ?_
  refine sKi (p := 1330) rfl rfl ?_
  refine sAd (p := 1331) rfl rfl ?_
  refine sSa (p := 1332) (j := 6 * k + 1) rfl rfl (by omega) ⟨by omega, by omega⟩ e1 ?_
  refine sCvQ (p := 1335) (as := [_]) rfl rfl rfl rfl (by decide) (Nat.le_of_ble_eq_true rfl) rfl (Nat.le_of_ble_eq_true rfl) (sk_179 _) rfl (by omega) (hm) ?_
  rintro _ S2 ⟨rfl, hJ2⟩
  refine sLq_eq (p := 1339) rfl rfl rfl (fun c1 => ?_) (fun c1 => ?_)
  · have c1 := c1
    exact lw_next hq hJ2
  · have c1 := c1
    exact absurd rfl c1
set_option maxRecDepth 100000 in
theorem lc_enter (hk : 6 * k + 6 ≤ X.length) (hX : X.length ≤ 384) (hJ : JI S) (hq : ∀ S', JI S' → K 23 [some (.retAddr 0), some (.ref 0), some (.ref 179), some (.ref 202), some (.int (iI ((6 * k + 6 : Nat) : Int))), none, none] [] S') : sT X 170 334 1341 [some (.retAddr 0), some (.ref 0), some (.ref 179), some (.ref 202), some (.int (iI ((6 * k : Nat) : Int))), none, none] [] S K := by
  obtain ⟨z1, e1⟩ : ∃ z, (X.getD (6 * k + 1) 0).toInt = z := ⟨_, rfl⟩
  have r1 : rg z1 := by rw [← e1]; exact tI_rg _
  have ra1 := r1.1
  have rb1 := r1.2
  obtain ⟨z2, e2⟩ : ∃ z, (X.getD (6 * k + 2) 0).toInt = z := ⟨_, rfl⟩
  have r2 : rg z2 := by rw [← e2]; exact tI_rg _
  have ra2 := r2.1
  have rb2 := r2.2
  obtain ⟨z3, e3⟩ : ∃ z, (X.getD (6 * k + 3) 0).toInt = z := ⟨_, rfl⟩
  have r3 : rg z3 := by rw [← e3]; exact tI_rg _
  have ra3 := r3.1
  have rb3 := r3.2
  refine sL (pc' := 1342) (i := .aload_n 1) rfl rfl ?_
  refine sL (pc' := 1343) (i := .aload_n 0) rfl rfl ?_
  refine sL (pc' := 1345) (i := .iload 4) rfl rfl ?_
  refine sKi (p := 1346) rfl rfl ?_
  refine sAd (p := 1347) rfl rfl ?_
  refine sSa (p := 1348) (j := 6 * k + 1) rfl rfl (by omega) ⟨by omega, by omega⟩ e1 ?_
  refine sCvQ (p := 1351) (as := [_]) rfl rfl rfl rfl (by decide) (Nat.le_of_ble_eq_true rfl) rfl (Nat.le_of_ble_eq_true rfl) (sk_0 _) rfl (by omega) (P_Enter hJ r1) ?_
  rintro _ S1 ⟨z, rfl, hm⟩
  refine sL (pc' := 1352) (i := .aload_n 2) rfl rfl ?_
  refine sL (pc' := 1353) (i := .aload_n 0) rfl rfl ?_
  refine sL (pc' := 1355) (i := .iload 4) rfl rfl ?_
  refine sKi (p := 1356) rfl rfl ?_
  refine sAd (p := 1357) rfl rfl ?_
  refine sSa (p := 1358) (j := 6 * k + 1) rfl rfl (by omega) ⟨by omega, by omega⟩ e1 ?_
  refine sCvQ (p := 1361) (as := [_]) rfl rfl rfl rfl (by decide) (Nat.le_of_ble_eq_true rfl) rfl (Nat.le_of_ble_eq_true rfl) (sk_179 _) rfl (by omega) (hm) ?_
  rintro _ S2 ⟨rfl, hJ2⟩
  refine sCmpEq rfl ?_
  exact lw_next hq hJ2
set_option maxRecDepth 100000 in
theorem lc_down (hk : 6 * k + 6 ≤ X.length) (hX : X.length ≤ 384) (hJ : JI S) (hq : ∀ S', JI S' → K 23 [some (.retAddr 0), some (.ref 0), some (.ref 179), some (.ref 202), some (.int (iI ((6 * k + 6 : Nat) : Int))), none, none] [] S') : sT X 170 334 1366 [some (.retAddr 0), some (.ref 0), some (.ref 179), some (.ref 202), some (.int (iI ((6 * k : Nat) : Int))), none, none] [] S K := by
  obtain ⟨z1, e1⟩ : ∃ z, (X.getD (6 * k + 1) 0).toInt = z := ⟨_, rfl⟩
  have r1 : rg z1 := by rw [← e1]; exact tI_rg _
  have ra1 := r1.1
  have rb1 := r1.2
  obtain ⟨z2, e2⟩ : ∃ z, (X.getD (6 * k + 2) 0).toInt = z := ⟨_, rfl⟩
  have r2 : rg z2 := by rw [← e2]; exact tI_rg _
  have ra2 := r2.1
  have rb2 := r2.2
  obtain ⟨z3, e3⟩ : ∃ z, (X.getD (6 * k + 3) 0).toInt = z := ⟨_, rfl⟩
  have r3 : rg z3 := by rw [← e3]; exact tI_rg _
  have ra3 := r3.1
  have rb3 := r3.2
  refine sL (pc' := 1367) (i := .aload_n 1) rfl rfl ?_
  refine sL (pc' := 1368) (i := .aload_n 0) rfl rfl ?_
  refine sL (pc' := 1370) (i := .iload 4) rfl rfl ?_
  refine sKi (p := 1371) rfl rfl ?_
  refine sAd (p := 1372) rfl rfl ?_
  refine sSa (p := 1373) (j := 6 * k + 1) rfl rfl (by omega) ⟨by omega, by omega⟩ e1 ?_
  refine sCvQ (p := 1376) (as := [_]) rfl rfl rfl rfl (by decide) (Nat.le_of_ble_eq_true rfl) rfl (Nat.le_of_ble_eq_true rfl) (sk_0 _) rfl (by omega) (P_Down hJ r1) ?_
  rintro _ S1 ⟨z, rfl, hm⟩
  refine sL (pc' := 1377) (i := .aload_n 2) rfl rfl ?_
  refine sL (pc' := 1378) (i := .aload_n 0) rfl rfl ?_
  refine sL (pc' := 1380) (i := .iload 4) rfl rfl ?_
  refine sKi (p := 1381) rfl rfl ?_
  refine sAd (p := 1382) rfl rfl ?_
  refine sSa (p := 1383) (j := 6 * k + 1) rfl rfl (by omega) ⟨by omega, by omega⟩ e1 ?_
  refine sCvQ (p := 1386) (as := [_]) rfl rfl rfl rfl (by decide) (Nat.le_of_ble_eq_true rfl) rfl (Nat.le_of_ble_eq_true rfl) (sk_179 _) rfl (by omega) (hm) ?_
  rintro _ S2 ⟨rfl, hJ2⟩
  refine sCmpEq rfl ?_
  exact lw_next hq hJ2
set_option maxRecDepth 100000 in
theorem lc_here (hk : 6 * k + 6 ≤ X.length) (hX : X.length ≤ 384) (hJ : JI S) (hq : ∀ S', JI S' → K 23 [some (.retAddr 0), some (.ref 0), some (.ref 179), some (.ref 202), some (.int (iI ((6 * k + 6 : Nat) : Int))), none, none] [] S') : sT X 170 334 1391 [some (.retAddr 0), some (.ref 0), some (.ref 179), some (.ref 202), some (.int (iI ((6 * k : Nat) : Int))), none, none] [] S K := by
  obtain ⟨z1, e1⟩ : ∃ z, (X.getD (6 * k + 1) 0).toInt = z := ⟨_, rfl⟩
  have r1 : rg z1 := by rw [← e1]; exact tI_rg _
  have ra1 := r1.1
  have rb1 := r1.2
  obtain ⟨z2, e2⟩ : ∃ z, (X.getD (6 * k + 2) 0).toInt = z := ⟨_, rfl⟩
  have r2 : rg z2 := by rw [← e2]; exact tI_rg _
  have ra2 := r2.1
  have rb2 := r2.2
  obtain ⟨z3, e3⟩ : ∃ z, (X.getD (6 * k + 3) 0).toInt = z := ⟨_, rfl⟩
  have r3 : rg z3 := by rw [← e3]; exact tI_rg _
  have ra3 := r3.1
  have rb3 := r3.2
  refine sL (pc' := 1392) (i := .aload_n 1) rfl rfl ?_
  refine sCvQ (p := 1395) (as := []) rfl rfl rfl rfl (by decide) (Nat.le_of_ble_eq_true rfl) rfl (Nat.le_of_ble_eq_true rfl) (sk_0 _) rfl (by omega) (P_Here hJ) ?_
  rintro _ S1 ⟨z, rfl, hm⟩
  refine sL (pc' := 1396) (i := .aload_n 2) rfl rfl ?_
  refine sCvQ (p := 1399) (as := []) rfl rfl rfl rfl (by decide) (Nat.le_of_ble_eq_true rfl) rfl (Nat.le_of_ble_eq_true rfl) (sk_179 _) rfl (by omega) (hm) ?_
  rintro _ S2 ⟨rfl, hJ2⟩
  refine sCmpEq rfl ?_
  exact lw_next hq hJ2
set_option maxRecDepth 100000 in
theorem lc_print (hk : 6 * k + 6 ≤ X.length) (hX : X.length ≤ 384) (hJ : JI S) (hq : ∀ S', JI S' → K 23 [some (.retAddr 0), some (.ref 0), some (.ref 179), some (.ref 202), some (.int (iI ((6 * k + 6 : Nat) : Int))), none, none] [] S') : sT X 170 334 1404 [some (.retAddr 0), some (.ref 0), some (.ref 179), some (.ref 202), some (.int (iI ((6 * k : Nat) : Int))), none, none] [] S K := by
  obtain ⟨z1, e1⟩ : ∃ z, (X.getD (6 * k + 1) 0).toInt = z := ⟨_, rfl⟩
  have r1 : rg z1 := by rw [← e1]; exact tI_rg _
  have ra1 := r1.1
  have rb1 := r1.2
  obtain ⟨z2, e2⟩ : ∃ z, (X.getD (6 * k + 2) 0).toInt = z := ⟨_, rfl⟩
  have r2 : rg z2 := by rw [← e2]; exact tI_rg _
  have ra2 := r2.1
  have rb2 := r2.2
  obtain ⟨z3, e3⟩ : ∃ z, (X.getD (6 * k + 3) 0).toInt = z := ⟨_, rfl⟩
  have r3 : rg z3 := by rw [← e3]; exact tI_rg _
  have ra3 := r3.1
  have rb3 := r3.2
  refine sL (pc' := 1405) (i := .aload_n 1) rfl rfl ?_
  refine sL (pc' := 1406) (i := .aload_n 0) rfl rfl ?_
  refine sL (pc' := 1408) (i := .iload 4) rfl rfl ?_
  refine sKi (p := 1409) rfl rfl ?_
  refine sAd (p := 1410) rfl rfl ?_
  refine sSa (p := 1411) (j := 6 * k + 1) rfl rfl (by omega) ⟨by omega, by omega⟩ e1 ?_
  refine sCvQ (p := 1414) (as := [_]) rfl rfl rfl rfl (by decide) (Nat.le_of_ble_eq_true rfl) rfl (Nat.le_of_ble_eq_true rfl) (sk_0 _) rfl (by omega) (P_Print hJ r1) ?_
  rintro _ S1 ⟨z, rfl, hm⟩
  refine sL (pc' := 1415) (i := .aload_n 2) rfl rfl ?_
  refine sL (pc' := 1416) (i := .aload_n 0) rfl rfl ?_
  refine sL (pc' := 1418) (i := .iload 4) rfl rfl ?_
  refine sKi (p := 1419) rfl rfl ?_
  refine sAd (p := 1420) rfl rfl ?_
  refine sSa (p := 1421) (j := 6 * k + 1) rfl rfl (by omega) ⟨by omega, by omega⟩ e1 ?_
  refine sCvQ (p := 1424) (as := [_]) rfl rfl rfl rfl (by decide) (Nat.le_of_ble_eq_true rfl) rfl (Nat.le_of_ble_eq_true rfl) (sk_179 _) rfl (by omega) (hm) ?_
  rintro _ S2 ⟨rfl, hJ2⟩
  refine sCmpEq rfl ?_
  exact lw_next hq hJ2
set_option maxRecDepth 100000 in
theorem lc_printed (hk : 6 * k + 6 ≤ X.length) (hX : X.length ≤ 384) (hJ : JI S) (hq : ∀ S', JI S' → K 23 [some (.retAddr 0), some (.ref 0), some (.ref 179), some (.ref 202), some (.int (iI ((6 * k + 6 : Nat) : Int))), none, none] [] S') : sT X 170 334 1429 [some (.retAddr 0), some (.ref 0), some (.ref 179), some (.ref 202), some (.int (iI ((6 * k : Nat) : Int))), none, none] [] S K := by
  obtain ⟨z1, e1⟩ : ∃ z, (X.getD (6 * k + 1) 0).toInt = z := ⟨_, rfl⟩
  have r1 : rg z1 := by rw [← e1]; exact tI_rg _
  have ra1 := r1.1
  have rb1 := r1.2
  obtain ⟨z2, e2⟩ : ∃ z, (X.getD (6 * k + 2) 0).toInt = z := ⟨_, rfl⟩
  have r2 : rg z2 := by rw [← e2]; exact tI_rg _
  have ra2 := r2.1
  have rb2 := r2.2
  obtain ⟨z3, e3⟩ : ∃ z, (X.getD (6 * k + 3) 0).toInt = z := ⟨_, rfl⟩
  have r3 : rg z3 := by rw [← e3]; exact tI_rg _
  have ra3 := r3.1
  have rb3 := r3.2
  refine sL (pc' := 1430) (i := .aload_n 1) rfl rfl ?_
  refine sL (pc' := 1431) (i := .aload_n 0) rfl rfl ?_
  refine sL (pc' := 1433) (i := .iload 4) rfl rfl ?_
  refine sKi (p := 1434) rfl rfl ?_
  refine sAd (p := 1435) rfl rfl ?_
  refine sSa (p := 1436) (j := 6 * k + 1) rfl rfl (by omega) ⟨by omega, by omega⟩ e1 ?_
  refine sCvQ (p := 1439) (as := [_]) rfl rfl rfl rfl (by decide) (Nat.le_of_ble_eq_true rfl) rfl (Nat.le_of_ble_eq_true rfl) (sk_0 _) rfl (by omega) (P_Printed hJ r1) ?_
  rintro _ S1 ⟨z, rfl, hm⟩
  refine sL (pc' := 1440) (i := .aload_n 2) rfl rfl ?_
  refine sL (pc' := 1441) (i := .aload_n 0) rfl rfl ?_
  refine sL (pc' := 1443) (i := .iload 4) rfl rfl ?_
  refine sKi (p := 1444) rfl rfl ?_
  refine sAd (p := 1445) rfl rfl ?_
  refine sSa (p := 1446) (j := 6 * k + 1) rfl rfl (by omega) ⟨by omega, by omega⟩ e1 ?_
  refine sCvQ (p := 1449) (as := [_]) rfl rfl rfl rfl (by decide) (Nat.le_of_ble_eq_true rfl) rfl (Nat.le_of_ble_eq_true rfl) (sk_179 _) rfl (by omega) (hm) ?_
  rintro _ S2 ⟨rfl, hJ2⟩
  refine sCmpEq rfl ?_
  exact lw_next hq hJ2
set_option maxRecDepth 100000 in
theorem lc_place (hk : 6 * k + 6 ≤ X.length) (hX : X.length ≤ 384) (hJ : JI S) (hq : ∀ S', JI S' → K 23 [some (.retAddr 0), some (.ref 0), some (.ref 179), some (.ref 202), some (.int (iI ((6 * k + 6 : Nat) : Int))), none, none] [] S') : sT X 170 334 1454 [some (.retAddr 0), some (.ref 0), some (.ref 179), some (.ref 202), some (.int (iI ((6 * k : Nat) : Int))), none, none] [] S K := by
  obtain ⟨z1, e1⟩ : ∃ z, (X.getD (6 * k + 1) 0).toInt = z := ⟨_, rfl⟩
  have r1 : rg z1 := by rw [← e1]; exact tI_rg _
  have ra1 := r1.1
  have rb1 := r1.2
  obtain ⟨z2, e2⟩ : ∃ z, (X.getD (6 * k + 2) 0).toInt = z := ⟨_, rfl⟩
  have r2 : rg z2 := by rw [← e2]; exact tI_rg _
  have ra2 := r2.1
  have rb2 := r2.2
  obtain ⟨z3, e3⟩ : ∃ z, (X.getD (6 * k + 3) 0).toInt = z := ⟨_, rfl⟩
  have r3 : rg z3 := by rw [← e3]; exact tI_rg _
  have ra3 := r3.1
  have rb3 := r3.2
  refine sL (pc' := 1455) (i := .aload_n 1) rfl rfl ?_
  refine sL (pc' := 1456) (i := .aload_n 0) rfl rfl ?_
  refine sL (pc' := 1458) (i := .iload 4) rfl rfl ?_
  refine sKi (p := 1459) rfl rfl ?_
  refine sAd (p := 1460) rfl rfl ?_
  refine sSa (p := 1461) (j := 6 * k + 1) rfl rfl (by omega) ⟨by omega, by omega⟩ e1 ?_
  refine sCvQ (p := 1464) (as := [_]) rfl rfl rfl rfl (by decide) (Nat.le_of_ble_eq_true rfl) rfl (Nat.le_of_ble_eq_true rfl) (sk_0 _) rfl (by omega) (P_Place hJ r1) ?_
  rintro _ S1 ⟨z, rfl, hm⟩
  refine sL (pc' := 1465) (i := .aload_n 2) rfl rfl ?_
  refine sL (pc' := 1466) (i := .aload_n 0) rfl rfl ?_
  refine sL (pc' := 1468) (i := .iload 4) rfl rfl ?_
  refine sKi (p := 1469) rfl rfl ?_
  refine sAd (p := 1470) rfl rfl ?_
  refine sSa (p := 1471) (j := 6 * k + 1) rfl rfl (by omega) ⟨by omega, by omega⟩ e1 ?_
  refine sCvQ (p := 1474) (as := [_]) rfl rfl rfl rfl (by decide) (Nat.le_of_ble_eq_true rfl) rfl (Nat.le_of_ble_eq_true rfl) (sk_179 _) rfl (by omega) (hm) ?_
  rintro _ S2 ⟨rfl, hJ2⟩
  refine sCmpEq rfl ?_
  exact lw_next hq hJ2
set_option maxRecDepth 100000 in
theorem lc_move (hk : 6 * k + 6 ≤ X.length) (hX : X.length ≤ 384) (hJ : JI S) (hq : ∀ S', JI S' → K 23 [some (.retAddr 0), some (.ref 0), some (.ref 179), some (.ref 202), some (.int (iI ((6 * k + 6 : Nat) : Int))), none, none] [] S') : sT X 170 334 1479 [some (.retAddr 0), some (.ref 0), some (.ref 179), some (.ref 202), some (.int (iI ((6 * k : Nat) : Int))), none, none] [] S K := by
  obtain ⟨z1, e1⟩ : ∃ z, (X.getD (6 * k + 1) 0).toInt = z := ⟨_, rfl⟩
  have r1 : rg z1 := by rw [← e1]; exact tI_rg _
  have ra1 := r1.1
  have rb1 := r1.2
  obtain ⟨z2, e2⟩ : ∃ z, (X.getD (6 * k + 2) 0).toInt = z := ⟨_, rfl⟩
  have r2 : rg z2 := by rw [← e2]; exact tI_rg _
  have ra2 := r2.1
  have rb2 := r2.2
  obtain ⟨z3, e3⟩ : ∃ z, (X.getD (6 * k + 3) 0).toInt = z := ⟨_, rfl⟩
  have r3 : rg z3 := by rw [← e3]; exact tI_rg _
  have ra3 := r3.1
  have rb3 := r3.2
  refine sL (pc' := 1480) (i := .aload_n 1) rfl rfl ?_
  refine sL (pc' := 1481) (i := .aload_n 0) rfl rfl ?_
  refine sL (pc' := 1483) (i := .iload 4) rfl rfl ?_
  refine sKi (p := 1484) rfl rfl ?_
  refine sAd (p := 1485) rfl rfl ?_
  refine sSa (p := 1486) (j := 6 * k + 1) rfl rfl (by omega) ⟨by omega, by omega⟩ e1 ?_
  refine sL (pc' := 1487) (i := .aload_n 0) rfl rfl ?_
  refine sL (pc' := 1489) (i := .iload 4) rfl rfl ?_
  refine sKi (p := 1490) rfl rfl ?_
  refine sAd (p := 1491) rfl rfl ?_
  refine sSa (p := 1492) (j := 6 * k + 2) rfl rfl (by omega) ⟨by omega, by omega⟩ e2 ?_
  refine sCvQ (p := 1495) (as := [_, _]) rfl rfl rfl rfl (by decide) (Nat.le_of_ble_eq_true rfl) rfl (Nat.le_of_ble_eq_true rfl) (sk_0 _) rfl (by omega) (P_Move hJ r1 r2) ?_
  rintro _ S1 ⟨z, rfl, hm⟩
  refine sL (pc' := 1496) (i := .aload_n 2) rfl rfl ?_
  refine sL (pc' := 1497) (i := .aload_n 0) rfl rfl ?_
  refine sL (pc' := 1499) (i := .iload 4) rfl rfl ?_
  refine sKi (p := 1500) rfl rfl ?_
  refine sAd (p := 1501) rfl rfl ?_
  refine sSa (p := 1502) (j := 6 * k + 1) rfl rfl (by omega) ⟨by omega, by omega⟩ e1 ?_
  refine sL (pc' := 1503) (i := .aload_n 0) rfl rfl ?_
  refine sL (pc' := 1505) (i := .iload 4) rfl rfl ?_
  refine sKi (p := 1506) rfl rfl ?_
  refine sAd (p := 1507) rfl rfl ?_
  refine sSa (p := 1508) (j := 6 * k + 2) rfl rfl (by omega) ⟨by omega, by omega⟩ e2 ?_
  refine sCvQ (p := 1511) (as := [_, _]) rfl rfl rfl rfl (by decide) (Nat.le_of_ble_eq_true rfl) rfl (Nat.le_of_ble_eq_true rfl) (sk_179 _) rfl (by omega) (hm) ?_
  rintro _ S2 ⟨rfl, hJ2⟩
  refine sCmpEq rfl ?_
  exact lw_next hq hJ2
set_option maxRecDepth 100000 in
theorem lc_seek (hk : 6 * k + 6 ≤ X.length) (hX : X.length ≤ 384) (hJ : JI S) (hq : ∀ S', JI S' → K 23 [some (.retAddr 0), some (.ref 0), some (.ref 179), some (.ref 202), some (.int (iI ((6 * k + 6 : Nat) : Int))), none, none] [] S') : sT X 170 334 1516 [some (.retAddr 0), some (.ref 0), some (.ref 179), some (.ref 202), some (.int (iI ((6 * k : Nat) : Int))), none, none] [] S K := by
  obtain ⟨z1, e1⟩ : ∃ z, (X.getD (6 * k + 1) 0).toInt = z := ⟨_, rfl⟩
  have r1 : rg z1 := by rw [← e1]; exact tI_rg _
  have ra1 := r1.1
  have rb1 := r1.2
  obtain ⟨z2, e2⟩ : ∃ z, (X.getD (6 * k + 2) 0).toInt = z := ⟨_, rfl⟩
  have r2 : rg z2 := by rw [← e2]; exact tI_rg _
  have ra2 := r2.1
  have rb2 := r2.2
  obtain ⟨z3, e3⟩ : ∃ z, (X.getD (6 * k + 3) 0).toInt = z := ⟨_, rfl⟩
  have r3 : rg z3 := by rw [← e3]; exact tI_rg _
  have ra3 := r3.1
  have rb3 := r3.2
  refine sL (pc' := 1517) (i := .aload_n 1) rfl rfl ?_
  refine sCvQ (p := 1520) (as := []) rfl rfl rfl rfl (by decide) (Nat.le_of_ble_eq_true rfl) rfl (Nat.le_of_ble_eq_true rfl) (sk_0 _) rfl (by omega) (P_Seek hJ) ?_
  rintro _ S1 ⟨z, rfl, hm⟩
  refine sL (pc' := 1521) (i := .aload_n 2) rfl rfl ?_
  refine sCvQ (p := 1524) (as := []) rfl rfl rfl rfl (by decide) (Nat.le_of_ble_eq_true rfl) rfl (Nat.le_of_ble_eq_true rfl) (sk_179 _) rfl (by omega) (hm) ?_
  rintro _ S2 ⟨rfl, hJ2⟩
  refine sCmpEq rfl ?_
  exact lw_next hq hJ2
end LB
