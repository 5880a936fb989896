/-! ===== the law's dispatch ===== -/
section LC
variable {X : List Int32} {d m pc p len q : Nat} {ns : Bool} {ls : xx_L} {r : List Value} {S : ST} {K : Nat → xx_L → List Value → ST → Prop}
theorem sTs_in {dd lo hi o : Int} {offs : Array Int} {z : Int} (he : ((xt_P X).1 m).1 pc = some (.tableswitch dd lo hi offs, len, q, ns)) (hz : rg z) (h1 : lo ≤ z ∧ z ≤ hi) (ho : offs[(z - lo).toNat]? = some o) (hp : ((pc : Int) + o).toNat = p) (kk : sT X d m p ls r S K) : sT X d m pc ls (.int (iI z) :: r) S K := by
  subst hp
  refine sL (pc' := ((pc : Int) + o).toNat) he ?_ kk
  show (if (iI z).toInt < lo ∨ hi < (iI z).toInt then _ else match offs[((iI z).toInt - lo).toNat]? with | some o => some (((pc : Int) + o).toNat, ls, r) | none => none) = _
  rw [iI_toInt hz, if_neg (by omega), ho]
theorem sTs_out {dd lo hi : Int} {offs : Array Int} {z : Int} (he : ((xt_P X).1 m).1 pc = some (.tableswitch dd lo hi offs, len, q, ns)) (hz : rg z) (h1 : hi < z) (hp : ((pc : Int) + dd).toNat = p) (kk : sT X d m p ls r S K) : sT X d m pc ls (.int (iI z) :: r) S K := by
  subst hp
  refine sL (pc' := ((pc : Int) + dd).toNat) he ?_ kk
  show (if (iI z).toInt < lo ∨ hi < (iI z).toInt then _ else match offs[((iI z).toInt - lo).toNat]? with | some o => some (((pc : Int) + o).toNat, ls, r) | none => none) = _
  rw [iI_toInt hz, if_pos (by omega)]
end LC
section LD
variable {X : List Int32} {S : ST} {k : Nat} {K : Nat → xx_L → List Value → ST → Prop}
set_option maxRecDepth 100000 in
theorem lw_disp (hk : 6 * k + 6 ≤ X.length) (hX : X.length ≤ 384) (hJ : JI S) (hY : SYM X) (hq : ∀ S', JI S' → K 23 [some (.retAddr 0), some (.ref 0), some (.ref 179), some (.ref 202), some (.int (iI ((6 * k + 6 : Nat) : Int))), none, none] [] S') (h13 : K 801 [some (.retAddr 0), some (.ref 0), some (.ref 179), some (.ref 202), some (.int (iI ((6 * k : Nat) : Int))), none, none] [] S) (h14 : K 905 [some (.retAddr 0), some (.ref 0), some (.ref 179), some (.ref 202), some (.int (iI ((6 * k : Nat) : Int))), none, none] [] S) (h26 : K 1205 [some (.retAddr 0), some (.ref 0), some (.ref 179), some (.ref 202), some (.int (iI ((6 * k : Nat) : Int))), none, none] [] S) : sT X 170 334 33 [some (.retAddr 0), some (.ref 0), some (.ref 179), some (.ref 202), some (.int (iI ((6 * k : Nat) : Int))), none, none] [] S K := by
  obtain ⟨z0, e0⟩ : ∃ z, (X.getD (6 * k + 0) 0).toInt = z := ⟨_, rfl⟩
  have r0 : rg z0 := by rw [← e0]; exact tI_rg _
  have hand : iI z0 &&& iI 63 = iI (z0 % 64) := iI_and (a := z0) 6 (by decide)
  obtain ⟨v, hv⟩ : ∃ v : Nat, z0 % 64 = ((v : Nat) : Int) := ⟨(z0 % 64).toNat, by omega⟩
  have hv64 : v < 64 := by omega
  rw [hv] at hand
  refine sL (pc' := 34) (i := .aload_n 0) rfl rfl ?_
  refine sL (pc' := 36) (i := .iload 4) rfl rfl ?_
  refine sSa (p := 37) (j := 6 * k + 0) rfl rfl (by omega) ⟨by omega, by omega⟩ e0 ?_
  refine sKb (p := 39) rfl rfl ?_
  refine sL (pc' := 40) (i := .iand) rfl rfl ?_
  rw [hand]
  rcases (show v = 0 ∨ v = 1 ∨ v = 2 ∨ v = 3 ∨ v = 4 ∨ v = 5 ∨ v = 6 ∨ v = 7 ∨ v = 8 ∨ v = 9 ∨ v = 10 ∨ v = 11 ∨ v = 12 ∨ v = 13 ∨ v = 14 ∨ v = 15 ∨ v = 16 ∨ v = 17 ∨ v = 18 ∨ v = 19 ∨ v = 20 ∨ v = 21 ∨ v = 22 ∨ v = 23 ∨ v = 24 ∨ v = 25 ∨ v = 26 ∨ v = 27 ∨ v = 28 ∨ v = 29 ∨ v = 30 ∨ v = 31 ∨ v = 32 ∨ v = 33 ∨ v = 34 ∨ v = 35 ∨ v = 36 ∨ 36 < v by omega) with rfl | rfl | rfl | rfl | rfl | rfl | rfl | rfl | rfl | rfl | rfl | rfl | rfl | rfl | rfl | rfl | rfl | rfl | rfl | rfl | rfl | rfl | rfl | rfl | rfl | rfl | rfl | rfl | rfl | rfl | rfl | rfl | rfl | rfl | rfl | rfl | rfl | hgt
  · refine sTs_in (z := 0) (o := 164) (p := 204) rfl ⟨by decide, by decide⟩ ⟨by decide, by decide⟩ rfl rfl ?_
    exact lc_choice hk hX hJ hq
  · refine sTs_in (z := 1) (o := 189) (p := 229) rfl ⟨by decide, by decide⟩ ⟨by decide, by decide⟩ rfl rfl ?_
    exact lc_weight hk hX hJ hq
  · refine sTs_in (z := 2) (o := 238) (p := 278) rfl ⟨by decide, by decide⟩ ⟨by decide, by decide⟩ rfl rfl ?_
    exact lc_rule hk hX hJ hq
  · refine sTs_in (z := 3) (o := 303) (p := 343) rfl ⟨by decide, by decide⟩ ⟨by decide, by decide⟩ rfl rfl ?_
    exact lc_is hk hX hJ hq
  · refine sTs_in (z := 4) (o := 340) (p := 380) rfl ⟨by decide, by decide⟩ ⟨by decide, by decide⟩ rfl rfl ?_
    exact lc_compare hk hX hJ hq
  · refine sTs_in (z := 5) (o := 389) (p := 429) rfl ⟨by decide, by decide⟩ ⟨by decide, by decide⟩ rfl rfl ?_
    exact lc_many hk hX hJ hq
  · refine sTs_in (z := 6) (o := 426) (p := 466) rfl ⟨by decide, by decide⟩ ⟨by decide, by decide⟩ rfl rfl ?_
    exact lc_join hk hX hJ hq
  · refine sTs_in (z := 7) (o := 475) (p := 515) rfl ⟨by decide, by decide⟩ ⟨by decide, by decide⟩ rfl rfl ?_
    exact lc_not hk hX hJ hq
  · refine sTs_in (z := 8) (o := 500) (p := 540) rfl ⟨by decide, by decide⟩ ⟨by decide, by decide⟩ rfl rfl ?_
    exact lc_choose hk hX hJ hq
  · refine sTs_in (z := 9) (o := 549) (p := 589) rfl ⟨by decide, by decide⟩ ⟨by decide, by decide⟩ rfl rfl ?_
    exact lc_condition hk hX hJ hq
  · refine sTs_in (z := 10) (o := 598) (p := 638) rfl ⟨by decide, by decide⟩ ⟨by decide, by decide⟩ rfl rfl ?_
    exact lc_quantify hk hX hJ hq
  · refine sTs_in (z := 11) (o := 663) (p := 703) rfl ⟨by decide, by decide⟩ ⟨by decide, by decide⟩ rfl rfl ?_
    exact lc_substitute hk hX hJ hq
  · refine sTs_in (z := 12) (o := 712) (p := 752) rfl ⟨by decide, by decide⟩ ⟨by decide, by decide⟩ rfl rfl ?_
    exact lc_exchange hk hX hJ hq
  · refine sTs_in (z := 13) (o := 761) (p := 801) rfl ⟨by decide, by decide⟩ ⟨by decide, by decide⟩ rfl rfl ?_
    exact sHe h13
  · refine sTs_in (z := 14) (o := 865) (p := 905) rfl ⟨by decide, by decide⟩ ⟨by decide, by decide⟩ rfl rfl ?_
    exact sHe h14
  · refine sTs_in (z := 15) (o := 901) (p := 941) rfl ⟨by decide, by decide⟩ ⟨by decide, by decide⟩ rfl rfl ?_
    exact lc_read hk hX hJ hY hq
  · refine sTs_in (z := 16) (o := 914) (p := 954) rfl ⟨by decide, by decide⟩ ⟨by decide, by decide⟩ rfl rfl ?_
    exact lc_fault hk hX hJ hq
  · refine sTs_in (z := 17) (o := 927) (p := 967) rfl ⟨by decide, by decide⟩ ⟨by decide, by decide⟩ rfl rfl ?_
    exact lc_named hk hX hJ hY hq
  · refine sTs_in (z := 18) (o := 940) (p := 980) rfl ⟨by decide, by decide⟩ ⟨by decide, by decide⟩ rfl rfl ?_
    exact lc_runs hk hX hJ hq
  · refine sTs_in (z := 19) (o := 965) (p := 1005) rfl ⟨by decide, by decide⟩ ⟨by decide, by decide⟩ rfl rfl ?_
    exact lc_alike hk hX hJ hq
  · refine sTs_in (z := 20) (o := 1002) (p := 1042) rfl ⟨by decide, by decide⟩ ⟨by decide, by decide⟩ rfl rfl ?_
    exact lc_depends hk hX hJ hq
  · refine sTs_in (z := 21) (o := 1039) (p := 1079) rfl ⟨by decide, by decide⟩ ⟨by decide, by decide⟩ rfl rfl ?_
    exact lc_size hk hX hJ hq
  · refine sTs_in (z := 22) (o := 1064) (p := 1104) rfl ⟨by decide, by decide⟩ ⟨by decide, by decide⟩ rfl rfl ?_
    exact lc_ways hk hX hJ hq
  · refine sTs_in (z := 23) (o := 1089) (p := 1129) rfl ⟨by decide, by decide⟩ ⟨by decide, by decide⟩ rfl rfl ?_
    exact lc_least hk hX hJ hq
  · refine sTs_in (z := 24) (o := 1114) (p := 1154) rfl ⟨by decide, by decide⟩ ⟨by decide, by decide⟩ rfl rfl ?_
    exact lc_best hk hX hJ hq
  · refine sTs_in (z := 25) (o := 1140) (p := 1180) rfl ⟨by decide, by decide⟩ ⟨by decide, by decide⟩ rfl rfl ?_
    exact lc_told hk hX hJ hq
  · refine sTs_in (z := 26) (o := 1165) (p := 1205) rfl ⟨by decide, by decide⟩ ⟨by decide, by decide⟩ rfl rfl ?_
    exact sHe h26
  · refine sTs_in (z := 27) (o := 1233) (p := 1273) rfl ⟨by decide, by decide⟩ ⟨by decide, by decide⟩ rfl rfl ?_
    exact lc_part hk hX hJ hq
  · refine sTs_in (z := 28) (o := 1275) (p := 1315) rfl ⟨by decide, by decide⟩ ⟨by decide, by decide⟩ rfl rfl ?_
    exact lc_weigh hk hX hJ hq
  · refine sTs_in (z := 29) (o := 1301) (p := 1341) rfl ⟨by decide, by decide⟩ ⟨by decide, by decide⟩ rfl rfl ?_
    exact lc_enter hk hX hJ hq
  · refine sTs_in (z := 30) (o := 1326) (p := 1366) rfl ⟨by decide, by decide⟩ ⟨by decide, by decide⟩ rfl rfl ?_
    exact lc_down hk hX hJ hq
  · refine sTs_in (z := 31) (o := 1351) (p := 1391) rfl ⟨by decide, by decide⟩ ⟨by decide, by decide⟩ rfl rfl ?_
    exact lc_here hk hX hJ hq
  · refine sTs_in (z := 32) (o := 1364) (p := 1404) rfl ⟨by decide, by decide⟩ ⟨by decide, by decide⟩ rfl rfl ?_
    exact lc_print hk hX hJ hq
  · refine sTs_in (z := 33) (o := 1389) (p := 1429) rfl ⟨by decide, by decide⟩ ⟨by decide, by decide⟩ rfl rfl ?_
    exact lc_printed hk hX hJ hq
  · refine sTs_in (z := 34) (o := 1414) (p := 1454) rfl ⟨by decide, by decide⟩ ⟨by decide, by decide⟩ rfl rfl ?_
    exact lc_place hk hX hJ hq
  · refine sTs_in (z := 35) (o := 1439) (p := 1479) rfl ⟨by decide, by decide⟩ ⟨by decide, by decide⟩ rfl rfl ?_
    exact lc_move hk hX hJ hq
  · refine sTs_in (z := 36) (o := 1476) (p := 1516) rfl ⟨by decide, by decide⟩ ⟨by decide, by decide⟩ rfl rfl ?_
    exact lc_seek hk hX hJ hq
  · refine sTs_out (z := ((v : Nat) : Int)) (p := 1529) rfl ⟨by omega, by omega⟩ (by omega) rfl ?_
    exact lw_next hq hJ
end LD
