/-! ===== the beginning: the heap of two fresh objects ===== -/
def I00 (c j : Nat) : Int := if c = 0 then (if j = 6 then -1 else if j = 8 then -1 else 0) else if c = 1 then (if j = 7 then 1 else 0) else if c = 2 then 1 else if c = 3 then 1 else if c = 4 then 1 else if c = 52 then (if j = 13 then 2 else 0) else if c = 58 then (if j < 2 then -1 else 0) else if c = 179 then (if j = 4 then 1 else if j = 19 then -1 else if j = 42 then -1 else 0) else 0
def L00 (c j : Nat) : Int64 := if c = 51 then (if j = 0 then 1 else 0) else 0
def R00 (c j : Nat) : Nat := if c = 52 then j + 52 else 0
def S00 : ST := ([], I00, L00, R00)
theorem rp_i {f : Nat → Int} {x : Int32} (n : Nat) (h : ∀ i, i < n → iI (f i) = x) : (List.range n).map (fun i => iI (f i)) = List.replicate n x := by
  apply List.ext_getElem?
  intro j
  by_cases q : j < n
  · rw [List.getElem?_map, List.getElem?_range q, List.getElem?_replicate_of_lt q]
    exact congrArg some (h j q)
  · rw [List.getElem?_eq_none (by rw [List.length_map, List.length_range]; omega), List.getElem?_eq_none (by rw [List.length_replicate]; omega)]
theorem rp_l {f : Nat → Int64} {x : Int64} (n : Nat) (h : ∀ i, i < n → f i = x) : (List.range n).map f = List.replicate n x := by
  apply List.ext_getElem?
  intro j
  by_cases q : j < n
  · rw [List.getElem?_map, List.getElem?_range q, List.getElem?_replicate_of_lt q]
    exact congrArg some (h j q)
  · rw [List.getElem?_eq_none (by rw [List.length_map, List.length_range]; omega), List.getElem?_eq_none (by rw [List.length_replicate]; omega)]
def c00 (a : Nat) (k : KD) : xx_E := sC (I00 a) (L00 a) (R00 a) k
theorem c00_2 : c00 2 (.inl (0, 10)) = .inl (0, .inl (List.replicate 10 1)) := congrArg (fun l => Sum.inl (0, Sum.inl l)) (rp_i 10 (fun _ _ => rfl))
theorem c00_3 : c00 3 (.inl (0, 10)) = .inl (0, .inl (List.replicate 10 1)) := congrArg (fun l => Sum.inl (0, Sum.inl l)) (rp_i 10 (fun _ _ => rfl))
theorem c00_4 : c00 4 (.inl (0, 60)) = .inl (0, .inl (List.replicate 60 1)) := congrArg (fun l => Sum.inl (0, Sum.inl l)) (rp_i 60 (fun _ _ => rfl))
theorem c00_5 : c00 5 (.inl (1, 60)) = .inl (1, .inl (List.replicate 60 0)) := congrArg (fun l => Sum.inl (1, Sum.inl l)) (rp_i 60 (fun _ _ => rfl))
theorem c00_6 : c00 6 (.inl (2, 1024)) = .inl (2, .inr (.inl (List.replicate 1024 0))) := congrArg (fun l => Sum.inl (2, Sum.inr (Sum.inl l))) (rp_l 1024 (fun _ _ => rfl))
theorem c00_9 : c00 9 (.inl (2, 16)) = .inl (2, .inr (.inl (List.replicate 16 0))) := congrArg (fun l => Sum.inl (2, Sum.inr (Sum.inl l))) (rp_l 16 (fun _ _ => rfl))
theorem c00_10 : c00 10 (.inl (2, 16)) = .inl (2, .inr (.inl (List.replicate 16 0))) := congrArg (fun l => Sum.inl (2, Sum.inr (Sum.inl l))) (rp_l 16 (fun _ _ => rfl))
theorem c00_11 : c00 11 (.inl (2, 16)) = .inl (2, .inr (.inl (List.replicate 16 0))) := congrArg (fun l => Sum.inl (2, Sum.inr (Sum.inl l))) (rp_l 16 (fun _ _ => rfl))
theorem c00_12 : c00 12 (.inl (2, 16)) = .inl (2, .inr (.inl (List.replicate 16 0))) := congrArg (fun l => Sum.inl (2, Sum.inr (Sum.inl l))) (rp_l 16 (fun _ _ => rfl))
theorem c00_13 : c00 13 (.inl (2, 16)) = .inl (2, .inr (.inl (List.replicate 16 0))) := congrArg (fun l => Sum.inl (2, Sum.inr (Sum.inl l))) (rp_l 16 (fun _ _ => rfl))
theorem c00_14 : c00 14 (.inl (2, 16)) = .inl (2, .inr (.inl (List.replicate 16 0))) := congrArg (fun l => Sum.inl (2, Sum.inr (Sum.inl l))) (rp_l 16 (fun _ _ => rfl))
theorem c00_15 : c00 15 (.inl (2, 16)) = .inl (2, .inr (.inl (List.replicate 16 0))) := congrArg (fun l => Sum.inl (2, Sum.inr (Sum.inl l))) (rp_l 16 (fun _ _ => rfl))
theorem c00_16 : c00 16 (.inl (2, 16)) = .inl (2, .inr (.inl (List.replicate 16 0))) := congrArg (fun l => Sum.inl (2, Sum.inr (Sum.inl l))) (rp_l 16 (fun _ _ => rfl))
theorem c00_17 : c00 17 (.inl (2, 16)) = .inl (2, .inr (.inl (List.replicate 16 0))) := congrArg (fun l => Sum.inl (2, Sum.inr (Sum.inl l))) (rp_l 16 (fun _ _ => rfl))
theorem c00_18 : c00 18 (.inl (2, 16)) = .inl (2, .inr (.inl (List.replicate 16 0))) := congrArg (fun l => Sum.inl (2, Sum.inr (Sum.inl l))) (rp_l 16 (fun _ _ => rfl))
theorem c00_19 : c00 19 (.inl (2, 16)) = .inl (2, .inr (.inl (List.replicate 16 0))) := congrArg (fun l => Sum.inl (2, Sum.inr (Sum.inl l))) (rp_l 16 (fun _ _ => rfl))
theorem c00_20 : c00 20 (.inl (2, 16)) = .inl (2, .inr (.inl (List.replicate 16 0))) := congrArg (fun l => Sum.inl (2, Sum.inr (Sum.inl l))) (rp_l 16 (fun _ _ => rfl))
theorem c00_21 : c00 21 (.inl (2, 16)) = .inl (2, .inr (.inl (List.replicate 16 0))) := congrArg (fun l => Sum.inl (2, Sum.inr (Sum.inl l))) (rp_l 16 (fun _ _ => rfl))
theorem c00_22 : c00 22 (.inl (2, 16)) = .inl (2, .inr (.inl (List.replicate 16 0))) := congrArg (fun l => Sum.inl (2, Sum.inr (Sum.inl l))) (rp_l 16 (fun _ _ => rfl))
theorem c00_23 : c00 23 (.inl (2, 16)) = .inl (2, .inr (.inl (List.replicate 16 0))) := congrArg (fun l => Sum.inl (2, Sum.inr (Sum.inl l))) (rp_l 16 (fun _ _ => rfl))
theorem c00_24 : c00 24 (.inl (2, 16)) = .inl (2, .inr (.inl (List.replicate 16 0))) := congrArg (fun l => Sum.inl (2, Sum.inr (Sum.inl l))) (rp_l 16 (fun _ _ => rfl))
theorem c00_25 : c00 25 (.inl (2, 16)) = .inl (2, .inr (.inl (List.replicate 16 0))) := congrArg (fun l => Sum.inl (2, Sum.inr (Sum.inl l))) (rp_l 16 (fun _ _ => rfl))
theorem c00_26 : c00 26 (.inl (2, 16)) = .inl (2, .inr (.inl (List.replicate 16 0))) := congrArg (fun l => Sum.inl (2, Sum.inr (Sum.inl l))) (rp_l 16 (fun _ _ => rfl))
theorem c00_27 : c00 27 (.inl (2, 16)) = .inl (2, .inr (.inl (List.replicate 16 0))) := congrArg (fun l => Sum.inl (2, Sum.inr (Sum.inl l))) (rp_l 16 (fun _ _ => rfl))
theorem c00_28 : c00 28 (.inl (2, 16)) = .inl (2, .inr (.inl (List.replicate 16 0))) := congrArg (fun l => Sum.inl (2, Sum.inr (Sum.inl l))) (rp_l 16 (fun _ _ => rfl))
theorem c00_29 : c00 29 (.inl (2, 16)) = .inl (2, .inr (.inl (List.replicate 16 0))) := congrArg (fun l => Sum.inl (2, Sum.inr (Sum.inl l))) (rp_l 16 (fun _ _ => rfl))
theorem c00_30 : c00 30 (.inl (2, 16)) = .inl (2, .inr (.inl (List.replicate 16 0))) := congrArg (fun l => Sum.inl (2, Sum.inr (Sum.inl l))) (rp_l 16 (fun _ _ => rfl))
theorem c00_31 : c00 31 (.inl (2, 16)) = .inl (2, .inr (.inl (List.replicate 16 0))) := congrArg (fun l => Sum.inl (2, Sum.inr (Sum.inl l))) (rp_l 16 (fun _ _ => rfl))
theorem c00_32 : c00 32 (.inl (2, 16)) = .inl (2, .inr (.inl (List.replicate 16 0))) := congrArg (fun l => Sum.inl (2, Sum.inr (Sum.inl l))) (rp_l 16 (fun _ _ => rfl))
theorem c00_33 : c00 33 (.inl (2, 16)) = .inl (2, .inr (.inl (List.replicate 16 0))) := congrArg (fun l => Sum.inl (2, Sum.inr (Sum.inl l))) (rp_l 16 (fun _ _ => rfl))
theorem c00_34 : c00 34 (.inl (2, 16)) = .inl (2, .inr (.inl (List.replicate 16 0))) := congrArg (fun l => Sum.inl (2, Sum.inr (Sum.inl l))) (rp_l 16 (fun _ _ => rfl))
theorem c00_35 : c00 35 (.inl (2, 16)) = .inl (2, .inr (.inl (List.replicate 16 0))) := congrArg (fun l => Sum.inl (2, Sum.inr (Sum.inl l))) (rp_l 16 (fun _ _ => rfl))
theorem c00_36 : c00 36 (.inl (2, 16)) = .inl (2, .inr (.inl (List.replicate 16 0))) := congrArg (fun l => Sum.inl (2, Sum.inr (Sum.inl l))) (rp_l 16 (fun _ _ => rfl))
theorem c00_37 : c00 37 (.inl (2, 16)) = .inl (2, .inr (.inl (List.replicate 16 0))) := congrArg (fun l => Sum.inl (2, Sum.inr (Sum.inl l))) (rp_l 16 (fun _ _ => rfl))
theorem c00_38 : c00 38 (.inl (2, 16)) = .inl (2, .inr (.inl (List.replicate 16 0))) := congrArg (fun l => Sum.inl (2, Sum.inr (Sum.inl l))) (rp_l 16 (fun _ _ => rfl))
theorem c00_39 : c00 39 (.inl (2, 16)) = .inl (2, .inr (.inl (List.replicate 16 0))) := congrArg (fun l => Sum.inl (2, Sum.inr (Sum.inl l))) (rp_l 16 (fun _ _ => rfl))
theorem c00_40 : c00 40 (.inl (2, 16)) = .inl (2, .inr (.inl (List.replicate 16 0))) := congrArg (fun l => Sum.inl (2, Sum.inr (Sum.inl l))) (rp_l 16 (fun _ _ => rfl))
theorem c00_41 : c00 41 (.inl (2, 16)) = .inl (2, .inr (.inl (List.replicate 16 0))) := congrArg (fun l => Sum.inl (2, Sum.inr (Sum.inl l))) (rp_l 16 (fun _ _ => rfl))
theorem c00_42 : c00 42 (.inl (2, 16)) = .inl (2, .inr (.inl (List.replicate 16 0))) := congrArg (fun l => Sum.inl (2, Sum.inr (Sum.inl l))) (rp_l 16 (fun _ _ => rfl))
theorem c00_43 : c00 43 (.inl (2, 16)) = .inl (2, .inr (.inl (List.replicate 16 0))) := congrArg (fun l => Sum.inl (2, Sum.inr (Sum.inl l))) (rp_l 16 (fun _ _ => rfl))
theorem c00_44 : c00 44 (.inl (2, 16)) = .inl (2, .inr (.inl (List.replicate 16 0))) := congrArg (fun l => Sum.inl (2, Sum.inr (Sum.inl l))) (rp_l 16 (fun _ _ => rfl))
theorem c00_45 : c00 45 (.inl (2, 16)) = .inl (2, .inr (.inl (List.replicate 16 0))) := congrArg (fun l => Sum.inl (2, Sum.inr (Sum.inl l))) (rp_l 16 (fun _ _ => rfl))
theorem c00_46 : c00 46 (.inl (2, 16)) = .inl (2, .inr (.inl (List.replicate 16 0))) := congrArg (fun l => Sum.inl (2, Sum.inr (Sum.inl l))) (rp_l 16 (fun _ _ => rfl))
theorem c00_47 : c00 47 (.inl (2, 16)) = .inl (2, .inr (.inl (List.replicate 16 0))) := congrArg (fun l => Sum.inl (2, Sum.inr (Sum.inl l))) (rp_l 16 (fun _ _ => rfl))
theorem c00_48 : c00 48 (.inl (2, 16)) = .inl (2, .inr (.inl (List.replicate 16 0))) := congrArg (fun l => Sum.inl (2, Sum.inr (Sum.inl l))) (rp_l 16 (fun _ _ => rfl))
theorem c00_49 : c00 49 (.inl (2, 40)) = .inl (2, .inr (.inl (List.replicate 40 0))) := congrArg (fun l => Sum.inl (2, Sum.inr (Sum.inl l))) (rp_l 40 (fun _ _ => rfl))
theorem c00_50 : c00 50 (.inl (0, 40)) = .inl (0, .inl (List.replicate 40 0)) := congrArg (fun l => Sum.inl (0, Sum.inl l)) (rp_i 40 (fun _ _ => rfl))
theorem c00_51 : c00 51 (.inl (2, 16)) = .inl (2, .inr (.inl ([1] ++ List.replicate 15 0))) := rfl
theorem c00_53 : c00 53 (.inl (0, 10)) = .inl (0, .inl (List.replicate 10 0)) := congrArg (fun l => Sum.inl (0, Sum.inl l)) (rp_i 10 (fun _ _ => rfl))
theorem c00_54 : c00 54 (.inl (0, 10)) = .inl (0, .inl (List.replicate 10 0)) := congrArg (fun l => Sum.inl (0, Sum.inl l)) (rp_i 10 (fun _ _ => rfl))
theorem c00_55 : c00 55 (.inl (0, 640)) = .inl (0, .inl (List.replicate 640 0)) := congrArg (fun l => Sum.inl (0, Sum.inl l)) (rp_i 640 (fun _ _ => rfl))
theorem c00_56 : c00 56 (.inl (0, 60)) = .inl (0, .inl (List.replicate 60 0)) := congrArg (fun l => Sum.inl (0, Sum.inl l)) (rp_i 60 (fun _ _ => rfl))
theorem c00_57 : c00 57 (.inl (0, 6)) = .inl (0, .inl (List.replicate 6 0)) := congrArg (fun l => Sum.inl (0, Sum.inl l)) (rp_i 6 (fun _ _ => rfl))
theorem c00_58 : c00 58 (.inl (0, 64)) = .inl (0, .inl ([-1, -1] ++ List.replicate 62 0)) := by decide +kernel
theorem c00_59 : c00 59 (.inl (0, 64)) = .inl (0, .inl (List.replicate 64 0)) := congrArg (fun l => Sum.inl (0, Sum.inl l)) (rp_i 64 (fun _ _ => rfl))
theorem c00_60 : c00 60 (.inl (0, 64)) = .inl (0, .inl (List.replicate 64 0)) := congrArg (fun l => Sum.inl (0, Sum.inl l)) (rp_i 64 (fun _ _ => rfl))
theorem c00_61 : c00 61 (.inl (0, 64)) = .inl (0, .inl (List.replicate 64 0)) := congrArg (fun l => Sum.inl (0, Sum.inl l)) (rp_i 64 (fun _ _ => rfl))
theorem c00_62 : c00 62 (.inl (0, 64)) = .inl (0, .inl (List.replicate 64 0)) := congrArg (fun l => Sum.inl (0, Sum.inl l)) (rp_i 64 (fun _ _ => rfl))
theorem c00_63 : c00 63 (.inl (0, 384)) = .inl (0, .inl (List.replicate 384 0)) := congrArg (fun l => Sum.inl (0, Sum.inl l)) (rp_i 384 (fun _ _ => rfl))
theorem c00_65 : c00 65 (.inl (0, 400)) = .inl (0, .inl (List.replicate 400 0)) := congrArg (fun l => Sum.inl (0, Sum.inl l)) (rp_i 400 (fun _ _ => rfl))
theorem c00_66 : c00 66 (.inl (0, 401)) = .inl (0, .inl (List.replicate 401 0)) := congrArg (fun l => Sum.inl (0, Sum.inl l)) (rp_i 401 (fun _ _ => rfl))
theorem c00_67 : c00 67 (.inl (0, 401)) = .inl (0, .inl (List.replicate 401 0)) := congrArg (fun l => Sum.inl (0, Sum.inl l)) (rp_i 401 (fun _ _ => rfl))
theorem c00_68 : c00 68 (.inl (2, 401)) = .inl (2, .inr (.inl (List.replicate 401 0))) := congrArg (fun l => Sum.inl (2, Sum.inr (Sum.inl l))) (rp_l 401 (fun _ _ => rfl))
theorem c00_71 : c00 71 (.inl (2, 16)) = .inl (2, .inr (.inl (List.replicate 16 0))) := congrArg (fun l => Sum.inl (2, Sum.inr (Sum.inl l))) (rp_l 16 (fun _ _ => rfl))
theorem c00_72 : c00 72 (.inl (2, 16)) = .inl (2, .inr (.inl (List.replicate 16 0))) := congrArg (fun l => Sum.inl (2, Sum.inr (Sum.inl l))) (rp_l 16 (fun _ _ => rfl))
theorem c00_73 : c00 73 (.inl (2, 16)) = .inl (2, .inr (.inl (List.replicate 16 0))) := congrArg (fun l => Sum.inl (2, Sum.inr (Sum.inl l))) (rp_l 16 (fun _ _ => rfl))
theorem c00_74 : c00 74 (.inl (2, 16)) = .inl (2, .inr (.inl (List.replicate 16 0))) := congrArg (fun l => Sum.inl (2, Sum.inr (Sum.inl l))) (rp_l 16 (fun _ _ => rfl))
theorem c00_75 : c00 75 (.inl (2, 16)) = .inl (2, .inr (.inl (List.replicate 16 0))) := congrArg (fun l => Sum.inl (2, Sum.inr (Sum.inl l))) (rp_l 16 (fun _ _ => rfl))
theorem c00_76 : c00 76 (.inl (2, 16)) = .inl (2, .inr (.inl (List.replicate 16 0))) := congrArg (fun l => Sum.inl (2, Sum.inr (Sum.inl l))) (rp_l 16 (fun _ _ => rfl))
theorem c00_77 : c00 77 (.inl (2, 16)) = .inl (2, .inr (.inl (List.replicate 16 0))) := congrArg (fun l => Sum.inl (2, Sum.inr (Sum.inl l))) (rp_l 16 (fun _ _ => rfl))
theorem c00_78 : c00 78 (.inl (2, 16)) = .inl (2, .inr (.inl (List.replicate 16 0))) := congrArg (fun l => Sum.inl (2, Sum.inr (Sum.inl l))) (rp_l 16 (fun _ _ => rfl))
theorem c00_79 : c00 79 (.inl (2, 16)) = .inl (2, .inr (.inl (List.replicate 16 0))) := congrArg (fun l => Sum.inl (2, Sum.inr (Sum.inl l))) (rp_l 16 (fun _ _ => rfl))
theorem c00_80 : c00 80 (.inl (2, 16)) = .inl (2, .inr (.inl (List.replicate 16 0))) := congrArg (fun l => Sum.inl (2, Sum.inr (Sum.inl l))) (rp_l 16 (fun _ _ => rfl))
theorem c00_81 : c00 81 (.inl (2, 16)) = .inl (2, .inr (.inl (List.replicate 16 0))) := congrArg (fun l => Sum.inl (2, Sum.inr (Sum.inl l))) (rp_l 16 (fun _ _ => rfl))
theorem c00_82 : c00 82 (.inl (2, 16)) = .inl (2, .inr (.inl (List.replicate 16 0))) := congrArg (fun l => Sum.inl (2, Sum.inr (Sum.inl l))) (rp_l 16 (fun _ _ => rfl))
theorem c00_83 : c00 83 (.inl (2, 16)) = .inl (2, .inr (.inl (List.replicate 16 0))) := congrArg (fun l => Sum.inl (2, Sum.inr (Sum.inl l))) (rp_l 16 (fun _ _ => rfl))
theorem c00_84 : c00 84 (.inl (2, 16)) = .inl (2, .inr (.inl (List.replicate 16 0))) := congrArg (fun l => Sum.inl (2, Sum.inr (Sum.inl l))) (rp_l 16 (fun _ _ => rfl))
theorem c00_85 : c00 85 (.inl (2, 16)) = .inl (2, .inr (.inl (List.replicate 16 0))) := congrArg (fun l => Sum.inl (2, Sum.inr (Sum.inl l))) (rp_l 16 (fun _ _ => rfl))
theorem c00_86 : c00 86 (.inl (2, 16)) = .inl (2, .inr (.inl (List.replicate 16 0))) := congrArg (fun l => Sum.inl (2, Sum.inr (Sum.inl l))) (rp_l 16 (fun _ _ => rfl))
theorem c00_87 : c00 87 (.inl (2, 16)) = .inl (2, .inr (.inl (List.replicate 16 0))) := congrArg (fun l => Sum.inl (2, Sum.inr (Sum.inl l))) (rp_l 16 (fun _ _ => rfl))
theorem c00_88 : c00 88 (.inl (2, 16)) = .inl (2, .inr (.inl (List.replicate 16 0))) := congrArg (fun l => Sum.inl (2, Sum.inr (Sum.inl l))) (rp_l 16 (fun _ _ => rfl))
theorem c00_89 : c00 89 (.inl (2, 16)) = .inl (2, .inr (.inl (List.replicate 16 0))) := congrArg (fun l => Sum.inl (2, Sum.inr (Sum.inl l))) (rp_l 16 (fun _ _ => rfl))
theorem c00_90 : c00 90 (.inl (2, 16)) = .inl (2, .inr (.inl (List.replicate 16 0))) := congrArg (fun l => Sum.inl (2, Sum.inr (Sum.inl l))) (rp_l 16 (fun _ _ => rfl))
theorem c00_91 : c00 91 (.inl (2, 16)) = .inl (2, .inr (.inl (List.replicate 16 0))) := congrArg (fun l => Sum.inl (2, Sum.inr (Sum.inl l))) (rp_l 16 (fun _ _ => rfl))
theorem c00_92 : c00 92 (.inl (2, 16)) = .inl (2, .inr (.inl (List.replicate 16 0))) := congrArg (fun l => Sum.inl (2, Sum.inr (Sum.inl l))) (rp_l 16 (fun _ _ => rfl))
theorem c00_93 : c00 93 (.inl (2, 16)) = .inl (2, .inr (.inl (List.replicate 16 0))) := congrArg (fun l => Sum.inl (2, Sum.inr (Sum.inl l))) (rp_l 16 (fun _ _ => rfl))
theorem c00_94 : c00 94 (.inl (2, 16)) = .inl (2, .inr (.inl (List.replicate 16 0))) := congrArg (fun l => Sum.inl (2, Sum.inr (Sum.inl l))) (rp_l 16 (fun _ _ => rfl))
theorem c00_95 : c00 95 (.inl (2, 16)) = .inl (2, .inr (.inl (List.replicate 16 0))) := congrArg (fun l => Sum.inl (2, Sum.inr (Sum.inl l))) (rp_l 16 (fun _ _ => rfl))
theorem c00_96 : c00 96 (.inl (2, 16)) = .inl (2, .inr (.inl (List.replicate 16 0))) := congrArg (fun l => Sum.inl (2, Sum.inr (Sum.inl l))) (rp_l 16 (fun _ _ => rfl))
theorem c00_97 : c00 97 (.inl (2, 16)) = .inl (2, .inr (.inl (List.replicate 16 0))) := congrArg (fun l => Sum.inl (2, Sum.inr (Sum.inl l))) (rp_l 16 (fun _ _ => rfl))
theorem c00_98 : c00 98 (.inl (2, 16)) = .inl (2, .inr (.inl (List.replicate 16 0))) := congrArg (fun l => Sum.inl (2, Sum.inr (Sum.inl l))) (rp_l 16 (fun _ _ => rfl))
theorem c00_99 : c00 99 (.inl (2, 16)) = .inl (2, .inr (.inl (List.replicate 16 0))) := congrArg (fun l => Sum.inl (2, Sum.inr (Sum.inl l))) (rp_l 16 (fun _ _ => rfl))
theorem c00_100 : c00 100 (.inl (2, 16)) = .inl (2, .inr (.inl (List.replicate 16 0))) := congrArg (fun l => Sum.inl (2, Sum.inr (Sum.inl l))) (rp_l 16 (fun _ _ => rfl))
theorem c00_101 : c00 101 (.inl (2, 16)) = .inl (2, .inr (.inl (List.replicate 16 0))) := congrArg (fun l => Sum.inl (2, Sum.inr (Sum.inl l))) (rp_l 16 (fun _ _ => rfl))
theorem c00_102 : c00 102 (.inl (2, 16)) = .inl (2, .inr (.inl (List.replicate 16 0))) := congrArg (fun l => Sum.inl (2, Sum.inr (Sum.inl l))) (rp_l 16 (fun _ _ => rfl))
theorem c00_103 : c00 103 (.inl (2, 16)) = .inl (2, .inr (.inl (List.replicate 16 0))) := congrArg (fun l => Sum.inl (2, Sum.inr (Sum.inl l))) (rp_l 16 (fun _ _ => rfl))
theorem c00_104 : c00 104 (.inl (2, 16)) = .inl (2, .inr (.inl (List.replicate 16 0))) := congrArg (fun l => Sum.inl (2, Sum.inr (Sum.inl l))) (rp_l 16 (fun _ _ => rfl))
theorem c00_105 : c00 105 (.inl (2, 16)) = .inl (2, .inr (.inl (List.replicate 16 0))) := congrArg (fun l => Sum.inl (2, Sum.inr (Sum.inl l))) (rp_l 16 (fun _ _ => rfl))
theorem c00_106 : c00 106 (.inl (2, 16)) = .inl (2, .inr (.inl (List.replicate 16 0))) := congrArg (fun l => Sum.inl (2, Sum.inr (Sum.inl l))) (rp_l 16 (fun _ _ => rfl))
theorem c00_107 : c00 107 (.inl (2, 16)) = .inl (2, .inr (.inl (List.replicate 16 0))) := congrArg (fun l => Sum.inl (2, Sum.inr (Sum.inl l))) (rp_l 16 (fun _ _ => rfl))
theorem c00_108 : c00 108 (.inl (2, 16)) = .inl (2, .inr (.inl (List.replicate 16 0))) := congrArg (fun l => Sum.inl (2, Sum.inr (Sum.inl l))) (rp_l 16 (fun _ _ => rfl))
theorem c00_109 : c00 109 (.inl (2, 16)) = .inl (2, .inr (.inl (List.replicate 16 0))) := congrArg (fun l => Sum.inl (2, Sum.inr (Sum.inl l))) (rp_l 16 (fun _ _ => rfl))
theorem c00_110 : c00 110 (.inl (2, 16)) = .inl (2, .inr (.inl (List.replicate 16 0))) := congrArg (fun l => Sum.inl (2, Sum.inr (Sum.inl l))) (rp_l 16 (fun _ _ => rfl))
theorem c00_111 : c00 111 (.inl (2, 16)) = .inl (2, .inr (.inl (List.replicate 16 0))) := congrArg (fun l => Sum.inl (2, Sum.inr (Sum.inl l))) (rp_l 16 (fun _ _ => rfl))
theorem c00_112 : c00 112 (.inl (2, 16)) = .inl (2, .inr (.inl (List.replicate 16 0))) := congrArg (fun l => Sum.inl (2, Sum.inr (Sum.inl l))) (rp_l 16 (fun _ _ => rfl))
theorem c00_113 : c00 113 (.inl (2, 16)) = .inl (2, .inr (.inl (List.replicate 16 0))) := congrArg (fun l => Sum.inl (2, Sum.inr (Sum.inl l))) (rp_l 16 (fun _ _ => rfl))
theorem c00_114 : c00 114 (.inl (2, 16)) = .inl (2, .inr (.inl (List.replicate 16 0))) := congrArg (fun l => Sum.inl (2, Sum.inr (Sum.inl l))) (rp_l 16 (fun _ _ => rfl))
theorem c00_115 : c00 115 (.inl (2, 16)) = .inl (2, .inr (.inl (List.replicate 16 0))) := congrArg (fun l => Sum.inl (2, Sum.inr (Sum.inl l))) (rp_l 16 (fun _ _ => rfl))
theorem c00_116 : c00 116 (.inl (2, 16)) = .inl (2, .inr (.inl (List.replicate 16 0))) := congrArg (fun l => Sum.inl (2, Sum.inr (Sum.inl l))) (rp_l 16 (fun _ _ => rfl))
theorem c00_117 : c00 117 (.inl (2, 16)) = .inl (2, .inr (.inl (List.replicate 16 0))) := congrArg (fun l => Sum.inl (2, Sum.inr (Sum.inl l))) (rp_l 16 (fun _ _ => rfl))
theorem c00_118 : c00 118 (.inl (2, 16)) = .inl (2, .inr (.inl (List.replicate 16 0))) := congrArg (fun l => Sum.inl (2, Sum.inr (Sum.inl l))) (rp_l 16 (fun _ _ => rfl))
theorem c00_119 : c00 119 (.inl (2, 16)) = .inl (2, .inr (.inl (List.replicate 16 0))) := congrArg (fun l => Sum.inl (2, Sum.inr (Sum.inl l))) (rp_l 16 (fun _ _ => rfl))
theorem c00_120 : c00 120 (.inl (2, 16)) = .inl (2, .inr (.inl (List.replicate 16 0))) := congrArg (fun l => Sum.inl (2, Sum.inr (Sum.inl l))) (rp_l 16 (fun _ _ => rfl))
theorem c00_121 : c00 121 (.inl (2, 16)) = .inl (2, .inr (.inl (List.replicate 16 0))) := congrArg (fun l => Sum.inl (2, Sum.inr (Sum.inl l))) (rp_l 16 (fun _ _ => rfl))
theorem c00_122 : c00 122 (.inl (2, 16)) = .inl (2, .inr (.inl (List.replicate 16 0))) := congrArg (fun l => Sum.inl (2, Sum.inr (Sum.inl l))) (rp_l 16 (fun _ _ => rfl))
theorem c00_123 : c00 123 (.inl (2, 16)) = .inl (2, .inr (.inl (List.replicate 16 0))) := congrArg (fun l => Sum.inl (2, Sum.inr (Sum.inl l))) (rp_l 16 (fun _ _ => rfl))
theorem c00_124 : c00 124 (.inl (2, 16)) = .inl (2, .inr (.inl (List.replicate 16 0))) := congrArg (fun l => Sum.inl (2, Sum.inr (Sum.inl l))) (rp_l 16 (fun _ _ => rfl))
theorem c00_125 : c00 125 (.inl (2, 16)) = .inl (2, .inr (.inl (List.replicate 16 0))) := congrArg (fun l => Sum.inl (2, Sum.inr (Sum.inl l))) (rp_l 16 (fun _ _ => rfl))
theorem c00_126 : c00 126 (.inl (2, 16)) = .inl (2, .inr (.inl (List.replicate 16 0))) := congrArg (fun l => Sum.inl (2, Sum.inr (Sum.inl l))) (rp_l 16 (fun _ _ => rfl))
theorem c00_127 : c00 127 (.inl (2, 16)) = .inl (2, .inr (.inl (List.replicate 16 0))) := congrArg (fun l => Sum.inl (2, Sum.inr (Sum.inl l))) (rp_l 16 (fun _ _ => rfl))
theorem c00_128 : c00 128 (.inl (2, 16)) = .inl (2, .inr (.inl (List.replicate 16 0))) := congrArg (fun l => Sum.inl (2, Sum.inr (Sum.inl l))) (rp_l 16 (fun _ _ => rfl))
theorem c00_129 : c00 129 (.inl (2, 16)) = .inl (2, .inr (.inl (List.replicate 16 0))) := congrArg (fun l => Sum.inl (2, Sum.inr (Sum.inl l))) (rp_l 16 (fun _ _ => rfl))
theorem c00_130 : c00 130 (.inl (2, 16)) = .inl (2, .inr (.inl (List.replicate 16 0))) := congrArg (fun l => Sum.inl (2, Sum.inr (Sum.inl l))) (rp_l 16 (fun _ _ => rfl))
theorem c00_131 : c00 131 (.inl (2, 16)) = .inl (2, .inr (.inl (List.replicate 16 0))) := congrArg (fun l => Sum.inl (2, Sum.inr (Sum.inl l))) (rp_l 16 (fun _ _ => rfl))
theorem c00_132 : c00 132 (.inl (2, 16)) = .inl (2, .inr (.inl (List.replicate 16 0))) := congrArg (fun l => Sum.inl (2, Sum.inr (Sum.inl l))) (rp_l 16 (fun _ _ => rfl))
theorem c00_133 : c00 133 (.inl (2, 16)) = .inl (2, .inr (.inl (List.replicate 16 0))) := congrArg (fun l => Sum.inl (2, Sum.inr (Sum.inl l))) (rp_l 16 (fun _ _ => rfl))
theorem c00_134 : c00 134 (.inl (2, 16)) = .inl (2, .inr (.inl (List.replicate 16 0))) := congrArg (fun l => Sum.inl (2, Sum.inr (Sum.inl l))) (rp_l 16 (fun _ _ => rfl))
theorem c00_135 : c00 135 (.inl (2, 16)) = .inl (2, .inr (.inl (List.replicate 16 0))) := congrArg (fun l => Sum.inl (2, Sum.inr (Sum.inl l))) (rp_l 16 (fun _ _ => rfl))
theorem c00_136 : c00 136 (.inl (2, 16)) = .inl (2, .inr (.inl (List.replicate 16 0))) := congrArg (fun l => Sum.inl (2, Sum.inr (Sum.inl l))) (rp_l 16 (fun _ _ => rfl))
theorem c00_137 : c00 137 (.inl (2, 16)) = .inl (2, .inr (.inl (List.replicate 16 0))) := congrArg (fun l => Sum.inl (2, Sum.inr (Sum.inl l))) (rp_l 16 (fun _ _ => rfl))
theorem c00_138 : c00 138 (.inl (2, 16)) = .inl (2, .inr (.inl (List.replicate 16 0))) := congrArg (fun l => Sum.inl (2, Sum.inr (Sum.inl l))) (rp_l 16 (fun _ _ => rfl))
theorem c00_139 : c00 139 (.inl (2, 16)) = .inl (2, .inr (.inl (List.replicate 16 0))) := congrArg (fun l => Sum.inl (2, Sum.inr (Sum.inl l))) (rp_l 16 (fun _ _ => rfl))
theorem c00_140 : c00 140 (.inl (2, 16)) = .inl (2, .inr (.inl (List.replicate 16 0))) := congrArg (fun l => Sum.inl (2, Sum.inr (Sum.inl l))) (rp_l 16 (fun _ _ => rfl))
theorem c00_141 : c00 141 (.inl (2, 16)) = .inl (2, .inr (.inl (List.replicate 16 0))) := congrArg (fun l => Sum.inl (2, Sum.inr (Sum.inl l))) (rp_l 16 (fun _ _ => rfl))
theorem c00_142 : c00 142 (.inl (2, 16)) = .inl (2, .inr (.inl (List.replicate 16 0))) := congrArg (fun l => Sum.inl (2, Sum.inr (Sum.inl l))) (rp_l 16 (fun _ _ => rfl))
theorem c00_143 : c00 143 (.inl (2, 16)) = .inl (2, .inr (.inl (List.replicate 16 0))) := congrArg (fun l => Sum.inl (2, Sum.inr (Sum.inl l))) (rp_l 16 (fun _ _ => rfl))
theorem c00_144 : c00 144 (.inl (2, 16)) = .inl (2, .inr (.inl (List.replicate 16 0))) := congrArg (fun l => Sum.inl (2, Sum.inr (Sum.inl l))) (rp_l 16 (fun _ _ => rfl))
theorem c00_145 : c00 145 (.inl (2, 16)) = .inl (2, .inr (.inl (List.replicate 16 0))) := congrArg (fun l => Sum.inl (2, Sum.inr (Sum.inl l))) (rp_l 16 (fun _ _ => rfl))
theorem c00_146 : c00 146 (.inl (2, 16)) = .inl (2, .inr (.inl (List.replicate 16 0))) := congrArg (fun l => Sum.inl (2, Sum.inr (Sum.inl l))) (rp_l 16 (fun _ _ => rfl))
theorem c00_147 : c00 147 (.inl (2, 16)) = .inl (2, .inr (.inl (List.replicate 16 0))) := congrArg (fun l => Sum.inl (2, Sum.inr (Sum.inl l))) (rp_l 16 (fun _ _ => rfl))
theorem c00_148 : c00 148 (.inl (2, 16)) = .inl (2, .inr (.inl (List.replicate 16 0))) := congrArg (fun l => Sum.inl (2, Sum.inr (Sum.inl l))) (rp_l 16 (fun _ _ => rfl))
theorem c00_149 : c00 149 (.inl (2, 16)) = .inl (2, .inr (.inl (List.replicate 16 0))) := congrArg (fun l => Sum.inl (2, Sum.inr (Sum.inl l))) (rp_l 16 (fun _ _ => rfl))
theorem c00_150 : c00 150 (.inl (2, 16)) = .inl (2, .inr (.inl (List.replicate 16 0))) := congrArg (fun l => Sum.inl (2, Sum.inr (Sum.inl l))) (rp_l 16 (fun _ _ => rfl))
theorem c00_151 : c00 151 (.inl (2, 16)) = .inl (2, .inr (.inl (List.replicate 16 0))) := congrArg (fun l => Sum.inl (2, Sum.inr (Sum.inl l))) (rp_l 16 (fun _ _ => rfl))
theorem c00_152 : c00 152 (.inl (2, 16)) = .inl (2, .inr (.inl (List.replicate 16 0))) := congrArg (fun l => Sum.inl (2, Sum.inr (Sum.inl l))) (rp_l 16 (fun _ _ => rfl))
theorem c00_153 : c00 153 (.inl (2, 16)) = .inl (2, .inr (.inl (List.replicate 16 0))) := congrArg (fun l => Sum.inl (2, Sum.inr (Sum.inl l))) (rp_l 16 (fun _ _ => rfl))
theorem c00_154 : c00 154 (.inl (2, 16)) = .inl (2, .inr (.inl (List.replicate 16 0))) := congrArg (fun l => Sum.inl (2, Sum.inr (Sum.inl l))) (rp_l 16 (fun _ _ => rfl))
theorem c00_155 : c00 155 (.inl (2, 16)) = .inl (2, .inr (.inl (List.replicate 16 0))) := congrArg (fun l => Sum.inl (2, Sum.inr (Sum.inl l))) (rp_l 16 (fun _ _ => rfl))
theorem c00_156 : c00 156 (.inl (2, 16)) = .inl (2, .inr (.inl (List.replicate 16 0))) := congrArg (fun l => Sum.inl (2, Sum.inr (Sum.inl l))) (rp_l 16 (fun _ _ => rfl))
theorem c00_157 : c00 157 (.inl (2, 16)) = .inl (2, .inr (.inl (List.replicate 16 0))) := congrArg (fun l => Sum.inl (2, Sum.inr (Sum.inl l))) (rp_l 16 (fun _ _ => rfl))
theorem c00_158 : c00 158 (.inl (2, 16)) = .inl (2, .inr (.inl (List.replicate 16 0))) := congrArg (fun l => Sum.inl (2, Sum.inr (Sum.inl l))) (rp_l 16 (fun _ _ => rfl))
theorem c00_159 : c00 159 (.inl (2, 16)) = .inl (2, .inr (.inl (List.replicate 16 0))) := congrArg (fun l => Sum.inl (2, Sum.inr (Sum.inl l))) (rp_l 16 (fun _ _ => rfl))
theorem c00_160 : c00 160 (.inl (2, 16)) = .inl (2, .inr (.inl (List.replicate 16 0))) := congrArg (fun l => Sum.inl (2, Sum.inr (Sum.inl l))) (rp_l 16 (fun _ _ => rfl))
theorem c00_161 : c00 161 (.inl (2, 16)) = .inl (2, .inr (.inl (List.replicate 16 0))) := congrArg (fun l => Sum.inl (2, Sum.inr (Sum.inl l))) (rp_l 16 (fun _ _ => rfl))
theorem c00_162 : c00 162 (.inl (2, 16)) = .inl (2, .inr (.inl (List.replicate 16 0))) := congrArg (fun l => Sum.inl (2, Sum.inr (Sum.inl l))) (rp_l 16 (fun _ _ => rfl))
theorem c00_163 : c00 163 (.inl (2, 16)) = .inl (2, .inr (.inl (List.replicate 16 0))) := congrArg (fun l => Sum.inl (2, Sum.inr (Sum.inl l))) (rp_l 16 (fun _ _ => rfl))
theorem c00_164 : c00 164 (.inl (2, 16)) = .inl (2, .inr (.inl (List.replicate 16 0))) := congrArg (fun l => Sum.inl (2, Sum.inr (Sum.inl l))) (rp_l 16 (fun _ _ => rfl))
theorem c00_165 : c00 165 (.inl (2, 16)) = .inl (2, .inr (.inl (List.replicate 16 0))) := congrArg (fun l => Sum.inl (2, Sum.inr (Sum.inl l))) (rp_l 16 (fun _ _ => rfl))
theorem c00_166 : c00 166 (.inl (2, 16)) = .inl (2, .inr (.inl (List.replicate 16 0))) := congrArg (fun l => Sum.inl (2, Sum.inr (Sum.inl l))) (rp_l 16 (fun _ _ => rfl))
theorem c00_167 : c00 167 (.inl (2, 16)) = .inl (2, .inr (.inl (List.replicate 16 0))) := congrArg (fun l => Sum.inl (2, Sum.inr (Sum.inl l))) (rp_l 16 (fun _ _ => rfl))
theorem c00_168 : c00 168 (.inl (2, 16)) = .inl (2, .inr (.inl (List.replicate 16 0))) := congrArg (fun l => Sum.inl (2, Sum.inr (Sum.inl l))) (rp_l 16 (fun _ _ => rfl))
theorem c00_169 : c00 169 (.inl (2, 16)) = .inl (2, .inr (.inl (List.replicate 16 0))) := congrArg (fun l => Sum.inl (2, Sum.inr (Sum.inl l))) (rp_l 16 (fun _ _ => rfl))
theorem c00_170 : c00 170 (.inl (2, 16)) = .inl (2, .inr (.inl (List.replicate 16 0))) := congrArg (fun l => Sum.inl (2, Sum.inr (Sum.inl l))) (rp_l 16 (fun _ _ => rfl))
theorem c00_171 : c00 171 (.inl (2, 16)) = .inl (2, .inr (.inl (List.replicate 16 0))) := congrArg (fun l => Sum.inl (2, Sum.inr (Sum.inl l))) (rp_l 16 (fun _ _ => rfl))
theorem c00_172 : c00 172 (.inl (2, 16)) = .inl (2, .inr (.inl (List.replicate 16 0))) := congrArg (fun l => Sum.inl (2, Sum.inr (Sum.inl l))) (rp_l 16 (fun _ _ => rfl))
theorem c00_173 : c00 173 (.inl (2, 16)) = .inl (2, .inr (.inl (List.replicate 16 0))) := congrArg (fun l => Sum.inl (2, Sum.inr (Sum.inl l))) (rp_l 16 (fun _ _ => rfl))
theorem c00_174 : c00 174 (.inl (2, 16)) = .inl (2, .inr (.inl (List.replicate 16 0))) := congrArg (fun l => Sum.inl (2, Sum.inr (Sum.inl l))) (rp_l 16 (fun _ _ => rfl))
theorem c00_175 : c00 175 (.inl (2, 16)) = .inl (2, .inr (.inl (List.replicate 16 0))) := congrArg (fun l => Sum.inl (2, Sum.inr (Sum.inl l))) (rp_l 16 (fun _ _ => rfl))
theorem c00_176 : c00 176 (.inl (2, 16)) = .inl (2, .inr (.inl (List.replicate 16 0))) := congrArg (fun l => Sum.inl (2, Sum.inr (Sum.inl l))) (rp_l 16 (fun _ _ => rfl))
theorem c00_178 : c00 178 (.inl (0, 8192)) = .inl (0, .inl (List.replicate 8192 0)) := congrArg (fun l => Sum.inl (0, Sum.inl l)) (rp_i 8192 (fun _ _ => rfl))
theorem c00_180 : c00 180 (.inl (0, 10)) = .inl (0, .inl (List.replicate 10 0)) := congrArg (fun l => Sum.inl (0, Sum.inl l)) (rp_i 10 (fun _ _ => rfl))
theorem c00_181 : c00 181 (.inl (0, 10)) = .inl (0, .inl (List.replicate 10 0)) := congrArg (fun l => Sum.inl (0, Sum.inl l)) (rp_i 10 (fun _ _ => rfl))
theorem c00_182 : c00 182 (.inl (0, 60)) = .inl (0, .inl (List.replicate 60 0)) := congrArg (fun l => Sum.inl (0, Sum.inl l)) (rp_i 60 (fun _ _ => rfl))
theorem c00_183 : c00 183 (.inl (1, 60)) = .inl (1, .inl (List.replicate 60 0)) := congrArg (fun l => Sum.inl (1, Sum.inl l)) (rp_i 60 (fun _ _ => rfl))
theorem c00_184 : c00 184 (.inl (0, 10)) = .inl (0, .inl (List.replicate 10 0)) := congrArg (fun l => Sum.inl (0, Sum.inl l)) (rp_i 10 (fun _ _ => rfl))
theorem c00_185 : c00 185 (.inl (2, 640)) = .inl (2, .inr (.inl (List.replicate 640 0))) := congrArg (fun l => Sum.inl (2, Sum.inr (Sum.inl l))) (rp_l 640 (fun _ _ => rfl))
theorem c00_186 : c00 186 (.inl (2, 16)) = .inl (2, .inr (.inl (List.replicate 16 0))) := congrArg (fun l => Sum.inl (2, Sum.inr (Sum.inl l))) (rp_l 16 (fun _ _ => rfl))
theorem c00_187 : c00 187 (.inl (2, 16)) = .inl (2, .inr (.inl (List.replicate 16 0))) := congrArg (fun l => Sum.inl (2, Sum.inr (Sum.inl l))) (rp_l 16 (fun _ _ => rfl))
theorem c00_188 : c00 188 (.inl (3, 400)) = .inl (3, .inl (List.replicate 400 0)) := congrArg (fun l => Sum.inl (3, Sum.inl l)) (rp_i 400 (fun _ _ => rfl))
theorem c00_189 : c00 189 (.inl (2, 40)) = .inl (2, .inr (.inl (List.replicate 40 0))) := congrArg (fun l => Sum.inl (2, Sum.inr (Sum.inl l))) (rp_l 40 (fun _ _ => rfl))
theorem c00_190 : c00 190 (.inl (0, 40)) = .inl (0, .inl (List.replicate 40 0)) := congrArg (fun l => Sum.inl (0, Sum.inl l)) (rp_i 40 (fun _ _ => rfl))
theorem c00_191 : c00 191 (.inl (0, 10)) = .inl (0, .inl (List.replicate 10 0)) := congrArg (fun l => Sum.inl (0, Sum.inl l)) (rp_i 10 (fun _ _ => rfl))
theorem c00_192 : c00 192 (.inl (2, 3520)) = .inl (2, .inr (.inl (List.replicate 3520 0))) := congrArg (fun l => Sum.inl (2, Sum.inr (Sum.inl l))) (rp_l 3520 (fun _ _ => rfl))
theorem c00_193 : c00 193 (.inl (0, 420)) = .inl (0, .inl (List.replicate 420 0)) := congrArg (fun l => Sum.inl (0, Sum.inl l)) (rp_i 420 (fun _ _ => rfl))
theorem c00_194 : c00 194 (.inl (0, 420)) = .inl (0, .inl (List.replicate 420 0)) := congrArg (fun l => Sum.inl (0, Sum.inl l)) (rp_i 420 (fun _ _ => rfl))
theorem c00_195 : c00 195 (.inl (2, 192016)) = .inl (2, .inr (.inl (List.replicate 192016 0))) := congrArg (fun l => Sum.inl (2, Sum.inr (Sum.inl l))) (rp_l 192016 (fun _ _ => rfl))
theorem c00_196 : c00 196 (.inl (0, 12001)) = .inl (0, .inl (List.replicate 12001 0)) := congrArg (fun l => Sum.inl (0, Sum.inl l)) (rp_i 12001 (fun _ _ => rfl))
theorem c00_197 : c00 197 (.inl (0, 72006)) = .inl (0, .inl (List.replicate 72006 0)) := congrArg (fun l => Sum.inl (0, Sum.inl l)) (rp_i 72006 (fun _ _ => rfl))
theorem c00_198 : c00 198 (.inl (0, 32768)) = .inl (0, .inl (List.replicate 32768 0)) := congrArg (fun l => Sum.inl (0, Sum.inl l)) (rp_i 32768 (fun _ _ => rfl))
theorem c00_199 : c00 199 (.inl (0, 12001)) = .inl (0, .inl (List.replicate 12001 0)) := congrArg (fun l => Sum.inl (0, Sum.inl l)) (rp_i 12001 (fun _ _ => rfl))
theorem c00_200 : c00 200 (.inl (2, 16)) = .inl (2, .inr (.inl (List.replicate 16 0))) := congrArg (fun l => Sum.inl (2, Sum.inr (Sum.inl l))) (rp_l 16 (fun _ _ => rfl))
theorem c00_201 : c00 201 (.inl (3, 20000)) = .inl (3, .inl (List.replicate 20000 0)) := congrArg (fun l => Sum.inl (3, Sum.inl l)) (rp_i 20000 (fun _ _ => rfl))
theorem c00_202 : c00 202 (.inl (2, 1)) = .inl (2, .inr (.inl (List.replicate 1 0))) := congrArg (fun l => Sum.inl (2, Sum.inr (Sum.inl l))) (rp_l 1 (fun _ _ => rfl))
set_option maxRecDepth 100000 in
theorem S00_sH : sH S00 = xl_h := by
  apply List.ext_getElem?
  intro a
  rw [sh_get]
  show (kd S00 a).map (c00 a) = _
  by_cases q : a < 203
  · revert q
    revert a
    show ∀ a, a < 203 → (kd S00 a).map (c00 a) = xl_h[a]?
    have h : ∀ a, a < 203 → (kd S00 a).map (c00 a) = xl_h[a]? := by
      intro a ha
      match a, ha with
      | 0, _ => rfl
      | 1, _ => rfl
      | 2, _ => exact congrArg some c00_2
      | 3, _ => exact congrArg some c00_3
      | 4, _ => exact congrArg some c00_4
      | 5, _ => exact congrArg some c00_5
      | 6, _ => exact congrArg some c00_6
      | 7, _ => rfl
      | 8, _ => rfl
      | 9, _ => exact congrArg some c00_9
      | 10, _ => exact congrArg some c00_10
      | 11, _ => exact congrArg some c00_11
      | 12, _ => exact congrArg some c00_12
      | 13, _ => exact congrArg some c00_13
      | 14, _ => exact congrArg some c00_14
      | 15, _ => exact congrArg some c00_15
      | 16, _ => exact congrArg some c00_16
      | 17, _ => exact congrArg some c00_17
      | 18, _ => exact congrArg some c00_18
      | 19, _ => exact congrArg some c00_19
      | 20, _ => exact congrArg some c00_20
      | 21, _ => exact congrArg some c00_21
      | 22, _ => exact congrArg some c00_22
      | 23, _ => exact congrArg some c00_23
      | 24, _ => exact congrArg some c00_24
      | 25, _ => exact congrArg some c00_25
      | 26, _ => exact congrArg some c00_26
      | 27, _ => exact congrArg some c00_27
      | 28, _ => exact congrArg some c00_28
      | 29, _ => exact congrArg some c00_29
      | 30, _ => exact congrArg some c00_30
      | 31, _ => exact congrArg some c00_31
      | 32, _ => exact congrArg some c00_32
      | 33, _ => exact congrArg some c00_33
      | 34, _ => exact congrArg some c00_34
      | 35, _ => exact congrArg some c00_35
      | 36, _ => exact congrArg some c00_36
      | 37, _ => exact congrArg some c00_37
      | 38, _ => exact congrArg some c00_38
      | 39, _ => exact congrArg some c00_39
      | 40, _ => exact congrArg some c00_40
      | 41, _ => exact congrArg some c00_41
      | 42, _ => exact congrArg some c00_42
      | 43, _ => exact congrArg some c00_43
      | 44, _ => exact congrArg some c00_44
      | 45, _ => exact congrArg some c00_45
      | 46, _ => exact congrArg some c00_46
      | 47, _ => exact congrArg some c00_47
      | 48, _ => exact congrArg some c00_48
      | 49, _ => exact congrArg some c00_49
      | 50, _ => exact congrArg some c00_50
      | 51, _ => exact congrArg some c00_51
      | 52, _ => rfl
      | 53, _ => exact congrArg some c00_53
      | 54, _ => exact congrArg some c00_54
      | 55, _ => exact congrArg some c00_55
      | 56, _ => exact congrArg some c00_56
      | 57, _ => exact congrArg some c00_57
      | 58, _ => exact congrArg some c00_58
      | 59, _ => exact congrArg some c00_59
      | 60, _ => exact congrArg some c00_60
      | 61, _ => exact congrArg some c00_61
      | 62, _ => exact congrArg some c00_62
      | 63, _ => exact congrArg some c00_63
      | 64, _ => rfl
      | 65, _ => exact congrArg some c00_65
      | 66, _ => exact congrArg some c00_66
      | 67, _ => exact congrArg some c00_67
      | 68, _ => exact congrArg some c00_68
      | 69, _ => rfl
      | 70, _ => rfl
      | 71, _ => exact congrArg some c00_71
      | 72, _ => exact congrArg some c00_72
      | 73, _ => exact congrArg some c00_73
      | 74, _ => exact congrArg some c00_74
      | 75, _ => exact congrArg some c00_75
      | 76, _ => exact congrArg some c00_76
      | 77, _ => exact congrArg some c00_77
      | 78, _ => exact congrArg some c00_78
      | 79, _ => exact congrArg some c00_79
      | 80, _ => exact congrArg some c00_80
      | 81, _ => exact congrArg some c00_81
      | 82, _ => exact congrArg some c00_82
      | 83, _ => exact congrArg some c00_83
      | 84, _ => exact congrArg some c00_84
      | 85, _ => exact congrArg some c00_85
      | 86, _ => exact congrArg some c00_86
      | 87, _ => exact congrArg some c00_87
      | 88, _ => exact congrArg some c00_88
      | 89, _ => exact congrArg some c00_89
      | 90, _ => exact congrArg some c00_90
      | 91, _ => exact congrArg some c00_91
      | 92, _ => exact congrArg some c00_92
      | 93, _ => exact congrArg some c00_93
      | 94, _ => exact congrArg some c00_94
      | 95, _ => exact congrArg some c00_95
      | 96, _ => exact congrArg some c00_96
      | 97, _ => exact congrArg some c00_97
      | 98, _ => exact congrArg some c00_98
      | 99, _ => exact congrArg some c00_99
      | 100, _ => exact congrArg some c00_100
      | 101, _ => exact congrArg some c00_101
      | 102, _ => exact congrArg some c00_102
      | 103, _ => exact congrArg some c00_103
      | 104, _ => exact congrArg some c00_104
      | 105, _ => exact congrArg some c00_105
      | 106, _ => exact congrArg some c00_106
      | 107, _ => exact congrArg some c00_107
      | 108, _ => exact congrArg some c00_108
      | 109, _ => exact congrArg some c00_109
      | 110, _ => exact congrArg some c00_110
      | 111, _ => exact congrArg some c00_111
      | 112, _ => exact congrArg some c00_112
      | 113, _ => exact congrArg some c00_113
      | 114, _ => exact congrArg some c00_114
      | 115, _ => exact congrArg some c00_115
      | 116, _ => exact congrArg some c00_116
      | 117, _ => exact congrArg some c00_117
      | 118, _ => exact congrArg some c00_118
      | 119, _ => exact congrArg some c00_119
      | 120, _ => exact congrArg some c00_120
      | 121, _ => exact congrArg some c00_121
      | 122, _ => exact congrArg some c00_122
      | 123, _ => exact congrArg some c00_123
      | 124, _ => exact congrArg some c00_124
      | 125, _ => exact congrArg some c00_125
      | 126, _ => exact congrArg some c00_126
      | 127, _ => exact congrArg some c00_127
      | 128, _ => exact congrArg some c00_128
      | 129, _ => exact congrArg some c00_129
      | 130, _ => exact congrArg some c00_130
      | 131, _ => exact congrArg some c00_131
      | 132, _ => exact congrArg some c00_132
      | 133, _ => exact congrArg some c00_133
      | 134, _ => exact congrArg some c00_134
      | 135, _ => exact congrArg some c00_135
      | 136, _ => exact congrArg some c00_136
      | 137, _ => exact congrArg some c00_137
      | 138, _ => exact congrArg some c00_138
      | 139, _ => exact congrArg some c00_139
      | 140, _ => exact congrArg some c00_140
      | 141, _ => exact congrArg some c00_141
      | 142, _ => exact congrArg some c00_142
      | 143, _ => exact congrArg some c00_143
      | 144, _ => exact congrArg some c00_144
      | 145, _ => exact congrArg some c00_145
      | 146, _ => exact congrArg some c00_146
      | 147, _ => exact congrArg some c00_147
      | 148, _ => exact congrArg some c00_148
      | 149, _ => exact congrArg some c00_149
      | 150, _ => exact congrArg some c00_150
      | 151, _ => exact congrArg some c00_151
      | 152, _ => exact congrArg some c00_152
      | 153, _ => exact congrArg some c00_153
      | 154, _ => exact congrArg some c00_154
      | 155, _ => exact congrArg some c00_155
      | 156, _ => exact congrArg some c00_156
      | 157, _ => exact congrArg some c00_157
      | 158, _ => exact congrArg some c00_158
      | 159, _ => exact congrArg some c00_159
      | 160, _ => exact congrArg some c00_160
      | 161, _ => exact congrArg some c00_161
      | 162, _ => exact congrArg some c00_162
      | 163, _ => exact congrArg some c00_163
      | 164, _ => exact congrArg some c00_164
      | 165, _ => exact congrArg some c00_165
      | 166, _ => exact congrArg some c00_166
      | 167, _ => exact congrArg some c00_167
      | 168, _ => exact congrArg some c00_168
      | 169, _ => exact congrArg some c00_169
      | 170, _ => exact congrArg some c00_170
      | 171, _ => exact congrArg some c00_171
      | 172, _ => exact congrArg some c00_172
      | 173, _ => exact congrArg some c00_173
      | 174, _ => exact congrArg some c00_174
      | 175, _ => exact congrArg some c00_175
      | 176, _ => exact congrArg some c00_176
      | 177, _ => rfl
      | 178, _ => exact congrArg some c00_178
      | 179, _ => rfl
      | 180, _ => exact congrArg some c00_180
      | 181, _ => exact congrArg some c00_181
      | 182, _ => exact congrArg some c00_182
      | 183, _ => exact congrArg some c00_183
      | 184, _ => exact congrArg some c00_184
      | 185, _ => exact congrArg some c00_185
      | 186, _ => exact congrArg some c00_186
      | 187, _ => exact congrArg some c00_187
      | 188, _ => exact congrArg some c00_188
      | 189, _ => exact congrArg some c00_189
      | 190, _ => exact congrArg some c00_190
      | 191, _ => exact congrArg some c00_191
      | 192, _ => exact congrArg some c00_192
      | 193, _ => exact congrArg some c00_193
      | 194, _ => exact congrArg some c00_194
      | 195, _ => exact congrArg some c00_195
      | 196, _ => exact congrArg some c00_196
      | 197, _ => exact congrArg some c00_197
      | 198, _ => exact congrArg some c00_198
      | 199, _ => exact congrArg some c00_199
      | 200, _ => exact congrArg some c00_200
      | 201, _ => exact congrArg some c00_201
      | 202, _ => exact congrArg some c00_202
      | n + 203, h => exact absurd h (by omega)
    exact h
  · rw [show kd S00 a = none from List.getElem?_eq_none (by show 203 ≤ a; omega), List.getElem?_eq_none (by rw [xl_len]; omega)]
    rfl
theorem es_k (I : Nat → Int) (L : Nat → Int64) (R : Nat → Nat) (k : KD) : xx_es (sC I L R k) = ksz k := by
  match k with
  | .inl (t, n) =>
    unfold sC
    by_cases q : t = 2
    · show xx_es (if t = 2 then _ else _) = n
      rw [if_pos q]
      show ((List.range n).map L).length = n
      rw [List.length_map, List.length_range]
    · show xx_es (if t = 2 then _ else _) = n
      rw [if_neg q]
      show ((List.range n).map _).length = n
      rw [List.length_map, List.length_range]
  | .inr (.inl l) => rfl
  | .inr (.inr (c, fs)) => exact List.length_mapIdx
set_option maxRecDepth 100000 in
theorem sz_tz (S : ST) : xx_sz (sH S) = 361551 + tz S := by
  have h : (sH S).map xx_es = (K0 ++ S.1).map ksz := by
    apply List.ext_getElem?
    intro a
    rw [List.getElem?_map, sh_get, List.getElem?_map]
    show ((kd S a).map _).map xx_es = (kd S a).map ksz
    rw [Option.map_map]
    cases kd S a with
    | none => rfl
    | some k => exact congrArg some (es_k _ _ _ k)
  unfold xx_sz tz
  rw [h, List.map_append, List.sum_append]
  exact congrArg (· + _) (show (K0.map ksz).sum = 361551 by decide +kernel)
