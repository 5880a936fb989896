/-! ===== the reference's reading: small methods ===== -/
def rk5 (t : Int) : Int := if t = 201 then 1 else if t = 200 then 2 else if t = 124 then 3 else if t = 94 then 4 else if t = 38 then 5 else 0
section MV
variable {X : List Int32} {S : ST} {kz : Int}
theorem m_rank {t : Int} (ht : rg t) : sM X 0 199 [.int (iI t)] S (sV (some (.int (iI (rk5 t)))) S) := by
  have t1 := ht.1
  have t2 := ht.2
  refine sIni (ls := [some (.int (iI t))]) rfl ?_
  refine sL (pc' := 1) (i := .iload_n 0) rfl rfl ?_
  refine sKs (p := 4) rfl rfl ?_
  refine sIc_ne (p := 7) rfl rfl ⟨by omega, by omega⟩ ⟨by omega, by omega⟩ (fun c1 => ?_) (fun c1 => ?_)
  · have c1 := c1
    refine sL (pc' := 12) (i := .iload_n 0) rfl rfl ?_
    refine sKs (p := 15) rfl rfl ?_
    refine sIc_ne (p := 18) rfl rfl ⟨by omega, by omega⟩ ⟨by omega, by omega⟩ (fun c2 => ?_) (fun c2 => ?_)
    · have c2 := c2
      refine sL (pc' := 23) (i := .iload_n 0) rfl rfl ?_
      refine sKb (p := 25) rfl rfl ?_
      refine sIc_ne (p := 28) rfl rfl ⟨by omega, by omega⟩ ⟨by omega, by omega⟩ (fun c3 => ?_) (fun c3 => ?_)
      · have c3 := c3
        refine sL (pc' := 33) (i := .iload_n 0) rfl rfl ?_
        refine sKb (p := 35) rfl rfl ?_
        refine sIc_ne (p := 38) rfl rfl ⟨by omega, by omega⟩ ⟨by omega, by omega⟩ (fun c4 => ?_) (fun c4 => ?_)
        · have c4 := c4
          refine sL (pc' := 43) (i := .iload_n 0) rfl rfl ?_
          refine sKb (p := 45) rfl rfl ?_
          refine sIc_ne (p := 48) rfl rfl ⟨by omega, by omega⟩ ⟨by omega, by omega⟩ (fun c5 => ?_) (fun c5 => ?_)
          · have c5 := c5
            refine sKi (p := 53) rfl rfl ?_
            refine sEn (i := .ireturn) rfl (rfl) ?_
            exact ⟨congrArg (fun z => some (Value.int (iI z))) (show (0 : Int) = rk5 t from by unfold rk5; rw [if_neg (by omega), if_neg (by omega), if_neg (by omega), if_neg (by omega), if_neg (by omega)]), rfl⟩
          · have c5 := c5
            refine sKi (p := 49) rfl rfl ?_
            refine sL (i := .goto 4) rfl rfl ?_
            refine sEn (i := .ireturn) rfl (rfl) ?_
            exact ⟨congrArg (fun z => some (Value.int (iI z))) (show (5 : Int) = rk5 t from by unfold rk5; rw [if_neg (by omega), if_neg (by omega), if_neg (by omega), if_neg (by omega), if_pos (by omega)]), rfl⟩
        · have c4 := c4
          refine sKi (p := 39) rfl rfl ?_
          refine sL (i := .goto 14) rfl rfl ?_
          refine sEn (i := .ireturn) rfl (rfl) ?_
          exact ⟨congrArg (fun z => some (Value.int (iI z))) (show (4 : Int) = rk5 t from by unfold rk5; rw [if_neg (by omega), if_neg (by omega), if_neg (by omega), if_pos (by omega)]), rfl⟩
      · have c3 := c3
        refine sKi (p := 29) rfl rfl ?_
        refine sL (i := .goto 24) rfl rfl ?_
        refine sEn (i := .ireturn) rfl (rfl) ?_
        exact ⟨congrArg (fun z => some (Value.int (iI z))) (show (3 : Int) = rk5 t from by unfold rk5; rw [if_neg (by omega), if_neg (by omega), if_pos (by omega)]), rfl⟩
    · have c2 := c2
      refine sKi (p := 19) rfl rfl ?_
      refine sL (i := .goto 34) rfl rfl ?_
      refine sEn (i := .ireturn) rfl (rfl) ?_
      exact ⟨congrArg (fun z => some (Value.int (iI z))) (show (2 : Int) = rk5 t from by unfold rk5; rw [if_neg (by omega), if_pos (by omega)]), rfl⟩
  · have c1 := c1
    refine sKi (p := 8) rfl rfl ?_
    refine sL (i := .goto 45) rfl rfl ?_
    refine sEn (i := .ireturn) rfl (rfl) ?_
    exact ⟨congrArg (fun z => some (Value.int (iI z))) (show (1 : Int) = rk5 t from by unfold rk5; rw [if_pos (by omega)]), rfl⟩
theorem m_push {w : Nat} {x v : Int} (hw : SI S 179 33 = ((w : Nat) : Int)) (h : w < 420) : sM X 0 200 [.ref 179, .int (iI x), .int (iI v)] S (sV none (wI (wI (wI S 193 w x) 194 w v) 179 33 (((w : Nat) : Int) + 1))) := by
  refine sIni (ls := [some (.ref 179), some (.int (iI x)), some (.int (iI v))]) rfl ?_
  refine sL (pc' := 1) (i := .aload_n 0) rfl rfl ?_
  refine sGc (p := 4) rfl rfl (sk_179 _) rfl rfl rfl ?_
  refine sL (pc' := 5) (i := .aload_n 0) rfl rfl ?_
  refine sGi (p := 8) rfl rfl (sk_179 _) rfl rfl rfl hw ?_
  refine sL (pc' := 9) (i := .iload_n 1) rfl rfl ?_
  refine sWi (p := 10) (i := w) rfl rfl (sk_193 _) (by omega) ⟨by omega, by omega⟩ ?_
  refine sL (pc' := 11) (i := .aload_n 0) rfl rfl ?_
  refine sGc (p := 14) rfl rfl (sk_179 _) rfl rfl rfl ?_
  refine sL (pc' := 15) (i := .aload_n 0) rfl rfl ?_
  refine sGi (p := 18) rfl rfl (sk_179 _) rfl rfl rfl ((rI_ne (by decide) _).trans hw) ?_
  refine sL (pc' := 19) (i := .iload_n 2) rfl rfl ?_
  refine sWi (p := 20) (i := w) rfl rfl (sk_194 _) (by omega) ⟨by omega, by omega⟩ ?_
  refine sL (pc' := 21) (i := .aload_n 0) rfl rfl ?_
  refine sL (pc' := 22) (i := .dup) rfl rfl ?_
  refine sGi (p := 25) rfl rfl (sk_179 _) rfl rfl rfl ((rI_ne (by decide) _).trans ((rI_ne (by decide) _).trans hw)) ?_
  refine sKi (p := 26) rfl rfl ?_
  refine sAd (p := 27) rfl rfl ?_
  refine sPi (z := (((w : Nat) : Int) + 1)) (p := 30) rfl rfl (sk_179 _) rfl rfl rfl rfl ?_
  refine sEn (i := .return_) rfl (rfl) ?_
  exact ⟨rfl, rfl⟩
theorem m_deeper {st : Nat} {d : Nat} (hd : SI S 179 34 = ((d : Nat) : Int)) (h20 : d ≤ 20) (hs : SI S 179 25 = ((st : Nat) : Int)) (hk : SI S 179 14 = kz) (hz : 0 ≤ kz ∧ kz ≤ 5) : sM X 1 204 [.ref 179] S (sV none (wI (if d = 20 then bdS S kz 5 ((st : Nat) : Int) else S) 179 34 (((d : Nat) : Int) + 1))) := by
  refine sIni (ls := [some (.ref 179)]) rfl ?_
  refine sL (pc' := 1) (i := .aload_n 0) rfl rfl ?_
  refine sGi (p := 4) rfl rfl (sk_179 _) rfl rfl rfl hd ?_
  refine sKb (p := 6) rfl rfl ?_
  refine sIc_ne (p := 9) rfl rfl ⟨by omega, by omega⟩ ⟨by omega, by omega⟩ (fun c1 => ?_) (fun c1 => ?_)
  · have c1 := c1
    refine sL (pc' := 19) (i := .aload_n 0) rfl rfl ?_
    refine sL (pc' := 20) (i := .dup) rfl rfl ?_
    refine sGi (p := 23) rfl rfl (sk_179 _) rfl rfl rfl hd ?_
    refine sKi (p := 24) rfl rfl ?_
    refine sAd (p := 25) rfl rfl ?_
    refine sPi (z := (((d : Nat) : Int) + 1)) (p := 28) rfl rfl (sk_179 _) rfl rfl rfl rfl ?_
    refine sEn (i := .return_) rfl (rfl) ?_
    exact ⟨rfl, congrArg (fun T => sH (wI T 179 34 (((d : Nat) : Int) + 1))) (show _ = (if d = 20 then bdS S kz 5 ((st : Nat) : Int) else S) from by rw [if_neg (by omega)])⟩
  · have c1 := c1
    refine sL (pc' := 10) (i := .aload_n 0) rfl rfl ?_
    refine sKi (p := 11) rfl rfl ?_
    refine sL (pc' := 12) (i := .aload_n 0) rfl rfl ?_
    refine sGi (p := 15) rfl rfl (sk_179 _) rfl rfl rfl hs ?_
    refine sCv (p := 18) (as := [_, _]) rfl rfl rfl rfl (by decide) (Nat.le_of_ble_eq_true rfl) rfl (Nat.le_of_ble_eq_true rfl) (sk_179 _) rfl (by omega) (m_bad hk hz) ?_
    refine sL (pc' := 19) (i := .aload_n 0) rfl rfl ?_
    refine sL (pc' := 20) (i := .dup) rfl rfl ?_
    refine sGi (p := 23) rfl rfl (sk_179 _) rfl rfl rfl ((bdS_f (by decide)).trans hd) ?_
    refine sKi (p := 24) rfl rfl ?_
    refine sAd (p := 25) rfl rfl ?_
    refine sPi (z := (((d : Nat) : Int) + 1)) (p := 28) rfl rfl (sk_179 _) rfl rfl rfl rfl ?_
    refine sEn (i := .return_) rfl (rfl) ?_
    exact ⟨rfl, congrArg (fun T => sH (wI T 179 34 (((d : Nat) : Int) + 1))) (show _ = (if d = 20 then bdS S kz 5 ((st : Nat) : Int) else S) from by rw [if_pos (by omega)])⟩
end MV
