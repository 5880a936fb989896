/-! ===== xk_: the words stand in the tables ===== -/
theorem xk_of {big ws : List Cond} (ps : List Nat) (h : ws = ps.filterMap (fun i => big[i]?)) : ∀ w ∈ ws, w ∈ big := fun w hw => by
  rw [h] at hw
  obtain ⟨i, -, hi⟩ := List.mem_filterMap.mp hw
  exact List.mem_of_getElem? hi
theorem xk_sp : ∀ w ∈ k2_sels lw_privs, w ∈ lw_tbl := fun w h => List.mem_append_left _ h
theorem xk_s1 : ∀ w ∈ tables_1_1, w ∈ lw_tbl := fun w h => List.mem_append_right _ (show w ∈ tables_1 from List.mem_append_left _ h)
theorem xk_s2 : ∀ w ∈ tables_1_2, w ∈ lw_tbl := fun w h => List.mem_append_right _ (show w ∈ tables_1 from List.mem_append_right _ (List.mem_append_left _ h))
theorem xk_s3 : ∀ w ∈ tables_1_3, w ∈ lw_tbl := fun w h => List.mem_append_right _ (show w ∈ tables_1 from List.mem_append_right _ (List.mem_append_right _ (List.mem_append_left _ h)))
theorem xk_s4 : ∀ w ∈ tables_1_4, w ∈ lw_tbl := fun w h => List.mem_append_right _ (show w ∈ tables_1 from List.mem_append_right _ (List.mem_append_right _ (List.mem_append_right _ (List.mem_append_left _ h))))
theorem xk_s5 : ∀ w ∈ tables_1_5, w ∈ lw_tbl := fun w h => List.mem_append_right _ (show w ∈ tables_1 from List.mem_append_right _ (List.mem_append_right _ (List.mem_append_right _ (List.mem_append_right _ (List.mem_append_left _ h)))))
theorem xk_s6 : ∀ w ∈ tables_1_6, w ∈ lw_tbl := fun w h => List.mem_append_right _ (show w ∈ tables_1 from List.mem_append_right _ (List.mem_append_right _ (List.mem_append_right _ (List.mem_append_right _ (List.mem_append_right _ (List.mem_append_left _ h))))))
theorem xk_s7 : ∀ w ∈ tables_1_7, w ∈ lw_tbl := fun w h => List.mem_append_right _ (show w ∈ tables_1 from List.mem_append_right _ (List.mem_append_right _ (List.mem_append_right _ (List.mem_append_right _ (List.mem_append_right _ (List.mem_append_right _ (h)))))))
theorem xk_w0 : ∀ w ∈ xt_w0, w ∈ lw_tbl := fun w h => xk_sp w (xk_of (big := k2_sels lw_privs) [5, 17, 13, 78, 79, 70, 16, 15, 18, 19, 20, 21, 22, 88, 90, 89, 91, 93, 92, 94, 95, 96, 69, 71, 72, 84, 85, 86, 27, 11, 3, 74, 77, 35, 42, 44, 36, 43, 9, 45, 46, 47, 55, 63, 48, 28, 49, 54, 50, 51, 52, 53, 59, 60, 61, 56, 58, 57, 62, 12] (by decide +kernel) w h)
theorem xk_g0 : xt_w0.all goodWord = true := by decide +kernel
theorem xk_w1 : ∀ w ∈ xt_w1, w ∈ lw_tbl := fun w h => xk_sp w (xk_of (big := k2_sels lw_privs) [6, 31, 37, 38, 39, 40, 41, 0, 1, 2, 4, 7, 8, 10, 14, 24, 25, 26, 29, 30, 32, 33, 23, 98, 100, 34, 64, 65, 66, 67, 68, 73, 75, 76, 80, 81, 82, 83, 87, 97, 103, 101, 102, 104, 105, 106, 108, 107, 109, 112, 111, 113, 114, 124, 110, 118, 119, 120, 121, 115] (by decide +kernel) w h)
theorem xk_g1 : xt_w1.all goodWord = true := by decide +kernel
theorem xk_w2 : ∀ w ∈ xt_w2, w ∈ lw_tbl := fun w h => xk_sp w (xk_of (big := k2_sels lw_privs) [122, 117, 123, 116, 125, 126, 127, 128, 129, 133, 134, 136, 132, 131, 135, 130, 137, 138, 139, 140, 141] (by decide +kernel) w h)
theorem xk_g2 : xt_w2.all goodWord = true := by decide +kernel
theorem xk_w3 : ∀ w ∈ xt_w3, w ∈ lw_tbl := fun w h => xk_s1 w (xk_of (big := tables_1_1) [37, 30, 31, 72, 41, 42, 43, 73, 44, 74, 45, 38, 3, 39, 52, 47, 2, 46, 114, 116, 117, 118, 119, 120, 121, 122, 123, 124, 125, 126, 115, 129, 5, 4, 127, 130, 11, 8, 80, 81, 84, 85, 86, 87, 83, 90, 93, 10, 22, 200, 201, 205, 202, 203, 204, 208, 7, 207, 6, 206] (by decide +kernel) w h)
theorem xk_g3 : xt_w3.all goodWord = true := by decide +kernel
theorem xk_w4 : ∀ w ∈ xt_w4, w ∈ lw_tbl := fun w h => xk_s1 w (xk_of (big := tables_1_1) [211, 167, 168, 169, 171, 173, 175, 177, 179, 17, 29, 32, 33, 35, 75, 76, 78, 109, 110, 112, 162, 163, 165, 195, 196, 198, 229, 230, 232, 1, 9, 18, 19, 20, 21, 24, 25, 26, 27, 234, 235, 236] (by decide +kernel) w h)
theorem xk_g4 : xt_w4.all goodWord = true := by decide +kernel
theorem xk_w5 : ∀ w ∈ xt_w5, w ∈ lw_tbl := fun w h => xk_s2 w (xk_of (big := tables_1_2) [79, 73, 201, 135, 117, 58, 131, 137, 126, 138, 140, 158, 160, 142, 143, 162, 163, 165, 166, 168, 170, 172, 174, 176, 157, 156, 221, 212, 104, 106, 108, 109, 182, 183, 53, 55, 57, 60, 61, 218, 219, 98, 153, 216, 113, 77, 3, 4, 5, 6, 7, 8, 9, 11, 43, 47, 51, 65, 82, 90] (by decide +kernel) w h)
theorem xk_g5 : xt_w5.all goodWord = true := by decide +kernel
theorem xk_w6 : ∀ w ∈ xt_w6, w ∈ lw_tbl := fun w h => xk_s2 w (xk_of (big := tables_1_2) [102, 119, 121, 191, 199, 204, 232, 180, 10, 12, 13, 152, 155, 37, 38, 39, 67, 68, 69, 84, 85, 86, 92, 93, 94, 185, 186, 187, 193, 194, 195, 206, 207, 208, 222, 223, 224, 226, 227, 228, 234, 235, 236] (by decide +kernel) w h)
theorem xk_g6 : xt_w6.all goodWord = true := by decide +kernel
theorem xk_w7 : ∀ w ∈ xt_w7, w ∈ lw_tbl := fun w h => xk_s3 w (xk_of (big := tables_1_3) [13, 14, 16, 17, 44, 46, 168, 170, 178, 50, 172, 174, 181, 183, 185, 187, 189, 191, 221, 223, 225, 226, 193, 195, 197, 199, 217, 219, 201, 203, 205, 207, 209, 211, 213, 215, 228, 230, 237, 239, 232, 234, 10, 52, 53, 55, 57, 59, 61, 63, 64, 66, 68, 70, 71, 77, 79, 81, 83, 73] (by decide +kernel) w h)
theorem xk_g7 : xt_w7.all goodWord = true := by decide +kernel
theorem xk_w8 : ∀ w ∈ xt_w8, w ∈ lw_tbl := fun w h => xk_s3 w (xk_of (big := tables_1_3) [74, 75, 76, 86, 87, 88, 0, 7, 26, 34, 42, 163, 167, 104, 105, 106, 90, 91, 92, 94, 95, 96, 100, 101, 102, 108, 109, 119, 120, 98, 137, 139, 140, 111, 112, 114, 115, 116, 117, 148, 131, 132, 150, 152, 122, 123, 124, 125, 126, 154, 155, 128, 129, 142, 143, 145, 146, 157, 158, 160] (by decide +kernel) w h)
theorem xk_g8 : xt_w8.all goodWord = true := by decide +kernel
theorem xk_w9 : ∀ w ∈ xt_w9, w ∈ lw_tbl := fun w h => xk_s3 w (xk_of (big := tables_1_3) [161, 164, 165, 134, 135, 3, 4, 5, 19, 20, 21, 28, 29, 30, 36, 37, 38] (by decide +kernel) w h)
theorem xk_g9 : xt_w9.all goodWord = true := by decide +kernel
theorem xk_w10 : ∀ w ∈ xt_w10, w ∈ lw_tbl := fun w h => xk_s4 w (xk_of (big := tables_1_4) [114, 132, 134, 136, 138, 85, 87, 224, 214, 225, 227, 222, 229, 231, 237, 239, 233, 235, 81, 83, 89, 91, 101, 99, 189, 193, 196, 198, 64, 28, 50, 51, 112, 130, 26, 2, 4, 7, 9, 13, 15, 6, 12, 17, 19, 40, 48, 62, 71, 79, 108, 115, 117, 123, 126, 156, 162, 163, 164, 168] (by decide +kernel) w h)
theorem xk_g10 : xt_w10.all goodWord = true := by decide +kernel
theorem xk_w11 : ∀ w ∈ xt_w11, w ∈ lw_tbl := fun w h => xk_s4 w (xk_of (big := tables_1_4) [176, 185, 206, 29, 53, 54, 55, 30, 31, 32, 34, 35, 36, 42, 43, 44, 56, 57, 58, 65, 66, 67, 73, 74, 75, 93, 94, 95, 102, 103, 104, 119, 120, 121, 141, 142, 143, 146, 147, 148, 150, 151, 152, 158, 159, 160, 170, 171, 172, 178, 179, 180, 181, 200, 201, 202, 208, 209, 210, 216] (by decide +kernel) w h)
theorem xk_g11 : xt_w11.all goodWord = true := by decide +kernel
theorem xk_w12 : ∀ w ∈ xt_w12, w ∈ lw_tbl := fun w h => xk_s4 w (xk_of (big := tables_1_4) [217, 218, 191] (by decide +kernel) w h)
theorem xk_g12 : xt_w12.all goodWord = true := by decide +kernel
theorem xk_w13 : ∀ w ∈ xt_w13, w ∈ lw_tbl := fun w h => xk_s5 w (xk_of (big := tables_1_5) [22, 1, 3, 5, 7, 9, 11, 13, 33, 104, 154, 155, 157, 158, 160, 161, 162, 20, 169, 175, 176, 177, 178, 179, 180, 181, 183, 184, 185, 188, 189, 191, 192, 202, 204, 205, 170, 208, 209, 171, 210, 172, 212, 213, 214, 215, 216, 173, 174, 182, 186, 195, 187, 201, 196, 198, 197, 199, 200, 206] (by decide +kernel) w h)
theorem xk_g13 : xt_w13.all goodWord = true := by decide +kernel
theorem xk_w14 : ∀ w ∈ xt_w14, w ∈ lw_tbl := fun w h => xk_s5 w (xk_of (big := tables_1_5) [203, 207, 190, 193, 194, 211, 217, 164, 165, 166, 167, 14, 15, 16, 27, 28, 29, 110, 111, 112, 134, 135, 136] (by decide +kernel) w h)
theorem xk_g14 : xt_w14.all goodWord = true := by decide +kernel
theorem xk_w15 : ∀ w ∈ xt_w15, w ∈ lw_tbl := fun w h => xk_s6 w (xk_of (big := tables_1_6) [109, 111, 79, 80, 77, 78, 82, 83, 85, 86, 92, 94, 96, 105, 107, 113, 115, 137, 129, 131, 133, 134, 135, 138, 140, 158, 160, 154, 156, 166, 168, 205, 206, 210, 211, 198, 200, 194, 196, 202, 203, 207, 208, 212, 214, 216, 217, 219, 221, 190, 192, 235, 237, 239, 223, 225, 231, 233, 227, 229] (by decide +kernel) w h)
theorem xk_g15 : xt_w15.all goodWord = true := by decide +kernel
theorem xk_w16 : ∀ w ∈ xt_w16, w ∈ lw_tbl := fun w h => xk_s6 w (xk_of (big := tables_1_6) [73, 74, 75, 88, 89, 90, 97, 98, 99, 101, 102, 103, 117, 118, 119, 121, 122, 123, 125, 126, 127, 142, 143, 144, 146, 147, 148, 150, 151, 152, 162, 163, 164, 170, 171, 172, 174, 175, 176, 178, 179, 180, 69, 70, 71, 182, 183, 184, 186, 187, 188] (by decide +kernel) w h)
theorem xk_g16 : xt_w16.all goodWord = true := by decide +kernel
theorem xk_w17 : ∀ w ∈ xt_w17, w ∈ lw_tbl := fun w h => xk_s7 w (xk_of (big := tables_1_7) [15, 16, 22, 24, 1, 3, 5, 7, 9, 11, 13, 18, 20, 38, 39, 49, 51, 57, 59, 61, 63, 69, 70, 72, 82, 84, 110, 112, 114, 115, 116, 118, 124, 126, 106, 108, 102, 104, 120, 122, 98, 100, 132, 95, 96, 133, 135, 141, 142, 143, 145, 147, 158, 160, 162, 164, 182, 171, 172, 178] (by decide +kernel) w h)
theorem xk_g17 : xt_w17.all goodWord = true := by decide +kernel
theorem xk_w18 : ∀ w ∈ xt_w18, w ∈ lw_tbl := fun w h => xk_s7 w (xk_of (big := tables_1_7) [180, 189, 188, 26, 27, 28, 30, 31, 32, 34, 35, 36, 41, 42, 43, 45, 46, 47, 94, 128, 129, 130, 53, 54, 55, 65, 66, 67, 74, 75, 76, 78, 79, 80, 86, 87, 88, 90, 91, 92, 137, 138, 139, 149, 150, 151, 153, 154, 155, 156, 166, 167, 168, 170, 174, 175, 176, 183, 184, 185] (by decide +kernel) w h)
theorem xk_g18 : xt_w18.all goodWord = true := by decide +kernel
theorem xk_uX7 : ∀ w ∈ u_ws RX7 TX7 2, w ∈ lw_tbl := by
  intro w hw
  obtain ⟨j, hj, rfl⟩ := List.mem_map.mp hw
  have hj := List.mem_range.mp hj
  match j, hj with
  | 0, _ => exact xk_s1 _ (List.mem_of_getElem? (i := 238) (by decide +kernel))
  | 1, _ => exact xk_s2 _ (List.mem_of_getElem? (i := 0) (by decide +kernel))
  | n + 2, h9 => exact absurd h9 (by omega)
theorem xk_guX7 : (u_ws RX7 TX7 2).all goodWord = true := by decide +kernel
theorem xk_uX0 : ∀ w ∈ u_ws RX0 TX0 8, w ∈ lw_tbl := by
  intro w hw
  obtain ⟨j, hj, rfl⟩ := List.mem_map.mp hw
  have hj := List.mem_range.mp hj
  match j, hj with
  | 0, _ => exact xk_s1 _ (List.mem_of_getElem? (i := 55) (by decide +kernel))
  | 1, _ => exact xk_s1 _ (List.mem_of_getElem? (i := 57) (by decide +kernel))
  | 2, _ => exact xk_s1 _ (List.mem_of_getElem? (i := 59) (by decide +kernel))
  | 3, _ => exact xk_s1 _ (List.mem_of_getElem? (i := 61) (by decide +kernel))
  | 4, _ => exact xk_s1 _ (List.mem_of_getElem? (i := 63) (by decide +kernel))
  | 5, _ => exact xk_s1 _ (List.mem_of_getElem? (i := 65) (by decide +kernel))
  | 6, _ => exact xk_s1 _ (List.mem_of_getElem? (i := 67) (by decide +kernel))
  | 7, _ => exact xk_s1 _ (List.mem_of_getElem? (i := 69) (by decide +kernel))
  | n + 8, h9 => exact absurd h9 (by omega)
theorem xk_guX0 : (u_ws RX0 TX0 8).all goodWord = true := by decide +kernel
theorem xk_uX1 : ∀ w ∈ u_ws RX1 TX1 15, w ∈ lw_tbl := by
  intro w hw
  obtain ⟨j, hj, rfl⟩ := List.mem_map.mp hw
  have hj := List.mem_range.mp hj
  match j, hj with
  | 0, _ => exact xk_s1 _ (List.mem_of_getElem? (i := 131) (by decide +kernel))
  | 1, _ => exact xk_s1 _ (List.mem_of_getElem? (i := 133) (by decide +kernel))
  | 2, _ => exact xk_s1 _ (List.mem_of_getElem? (i := 135) (by decide +kernel))
  | 3, _ => exact xk_s1 _ (List.mem_of_getElem? (i := 137) (by decide +kernel))
  | 4, _ => exact xk_s1 _ (List.mem_of_getElem? (i := 139) (by decide +kernel))
  | 5, _ => exact xk_s1 _ (List.mem_of_getElem? (i := 141) (by decide +kernel))
  | 6, _ => exact xk_s1 _ (List.mem_of_getElem? (i := 143) (by decide +kernel))
  | 7, _ => exact xk_s1 _ (List.mem_of_getElem? (i := 145) (by decide +kernel))
  | 8, _ => exact xk_s1 _ (List.mem_of_getElem? (i := 147) (by decide +kernel))
  | 9, _ => exact xk_s1 _ (List.mem_of_getElem? (i := 149) (by decide +kernel))
  | 10, _ => exact xk_s1 _ (List.mem_of_getElem? (i := 151) (by decide +kernel))
  | 11, _ => exact xk_s1 _ (List.mem_of_getElem? (i := 153) (by decide +kernel))
  | 12, _ => exact xk_s1 _ (List.mem_of_getElem? (i := 155) (by decide +kernel))
  | 13, _ => exact xk_s1 _ (List.mem_of_getElem? (i := 157) (by decide +kernel))
  | 14, _ => exact xk_s1 _ (List.mem_of_getElem? (i := 159) (by decide +kernel))
  | n + 15, h9 => exact absurd h9 (by omega)
theorem xk_guX1 : (u_ws RX1 TX1 15).all goodWord = true := by decide +kernel
theorem xk_uX2 : ∀ w ∈ u_ws RX2 TX2 7, w ∈ lw_tbl := by
  intro w hw
  obtain ⟨j, hj, rfl⟩ := List.mem_map.mp hw
  have hj := List.mem_range.mp hj
  match j, hj with
  | 0, _ => exact xk_s1 _ (List.mem_of_getElem? (i := 94) (by decide +kernel))
  | 1, _ => exact xk_s1 _ (List.mem_of_getElem? (i := 96) (by decide +kernel))
  | 2, _ => exact xk_s1 _ (List.mem_of_getElem? (i := 98) (by decide +kernel))
  | 3, _ => exact xk_s1 _ (List.mem_of_getElem? (i := 100) (by decide +kernel))
  | 4, _ => exact xk_s1 _ (List.mem_of_getElem? (i := 102) (by decide +kernel))
  | 5, _ => exact xk_s1 _ (List.mem_of_getElem? (i := 104) (by decide +kernel))
  | 6, _ => exact xk_s1 _ (List.mem_of_getElem? (i := 106) (by decide +kernel))
  | n + 7, h9 => exact absurd h9 (by omega)
theorem xk_guX2 : (u_ws RX2 TX2 7).all goodWord = true := by decide +kernel
theorem xk_uX3 : ∀ w ∈ u_ws RX3 TX3 8, w ∈ lw_tbl := by
  intro w hw
  obtain ⟨j, hj, rfl⟩ := List.mem_map.mp hw
  have hj := List.mem_range.mp hj
  match j, hj with
  | 0, _ => exact xk_s1 _ (List.mem_of_getElem? (i := 212) (by decide +kernel))
  | 1, _ => exact xk_s1 _ (List.mem_of_getElem? (i := 214) (by decide +kernel))
  | 2, _ => exact xk_s1 _ (List.mem_of_getElem? (i := 216) (by decide +kernel))
  | 3, _ => exact xk_s1 _ (List.mem_of_getElem? (i := 218) (by decide +kernel))
  | 4, _ => exact xk_s1 _ (List.mem_of_getElem? (i := 220) (by decide +kernel))
  | 5, _ => exact xk_s1 _ (List.mem_of_getElem? (i := 222) (by decide +kernel))
  | 6, _ => exact xk_s1 _ (List.mem_of_getElem? (i := 224) (by decide +kernel))
  | 7, _ => exact xk_s1 _ (List.mem_of_getElem? (i := 226) (by decide +kernel))
  | n + 8, h9 => exact absurd h9 (by omega)
theorem xk_guX3 : (u_ws RX3 TX3 8).all goodWord = true := by decide +kernel
theorem xk_uX4 : ∀ w ∈ u_ws RX4 TX4 7, w ∈ lw_tbl := by
  intro w hw
  obtain ⟨j, hj, rfl⟩ := List.mem_map.mp hw
  have hj := List.mem_range.mp hj
  match j, hj with
  | 0, _ => exact xk_s1 _ (List.mem_of_getElem? (i := 180) (by decide +kernel))
  | 1, _ => exact xk_s1 _ (List.mem_of_getElem? (i := 182) (by decide +kernel))
  | 2, _ => exact xk_s1 _ (List.mem_of_getElem? (i := 184) (by decide +kernel))
  | 3, _ => exact xk_s1 _ (List.mem_of_getElem? (i := 186) (by decide +kernel))
  | 4, _ => exact xk_s1 _ (List.mem_of_getElem? (i := 188) (by decide +kernel))
  | 5, _ => exact xk_s1 _ (List.mem_of_getElem? (i := 190) (by decide +kernel))
  | 6, _ => exact xk_s1 _ (List.mem_of_getElem? (i := 192) (by decide +kernel))
  | n + 7, h9 => exact absurd h9 (by omega)
theorem xk_guX4 : (u_ws RX4 TX4 7).all goodWord = true := by decide +kernel
theorem xk_uX5 : ∀ w ∈ u_ws RX5 TX5 11, w ∈ lw_tbl := by
  intro w hw
  obtain ⟨j, hj, rfl⟩ := List.mem_map.mp hw
  have hj := List.mem_range.mp hj
  match j, hj with
  | 0, _ => exact xk_s2 _ (List.mem_of_getElem? (i := 14) (by decide +kernel))
  | 1, _ => exact xk_s2 _ (List.mem_of_getElem? (i := 16) (by decide +kernel))
  | 2, _ => exact xk_s2 _ (List.mem_of_getElem? (i := 18) (by decide +kernel))
  | 3, _ => exact xk_s2 _ (List.mem_of_getElem? (i := 20) (by decide +kernel))
  | 4, _ => exact xk_s2 _ (List.mem_of_getElem? (i := 22) (by decide +kernel))
  | 5, _ => exact xk_s2 _ (List.mem_of_getElem? (i := 24) (by decide +kernel))
  | 6, _ => exact xk_s2 _ (List.mem_of_getElem? (i := 26) (by decide +kernel))
  | 7, _ => exact xk_s2 _ (List.mem_of_getElem? (i := 28) (by decide +kernel))
  | 8, _ => exact xk_s2 _ (List.mem_of_getElem? (i := 30) (by decide +kernel))
  | 9, _ => exact xk_s2 _ (List.mem_of_getElem? (i := 32) (by decide +kernel))
  | 10, _ => exact xk_s2 _ (List.mem_of_getElem? (i := 34) (by decide +kernel))
  | n + 11, h9 => exact absurd h9 (by omega)
theorem xk_guX5 : (u_ws RX5 TX5 11).all goodWord = true := by decide +kernel
theorem xk_uX6 : ∀ w ∈ u_ws RX6 TX6 45, w ∈ lw_tbl := by
  intro w hw
  obtain ⟨j, hj, rfl⟩ := List.mem_map.mp hw
  have hj := List.mem_range.mp hj
  match j, hj with
  | 0, _ => exact xk_s5 _ (List.mem_of_getElem? (i := 218) (by decide +kernel))
  | 1, _ => exact xk_s5 _ (List.mem_of_getElem? (i := 220) (by decide +kernel))
  | 2, _ => exact xk_s5 _ (List.mem_of_getElem? (i := 222) (by decide +kernel))
  | 3, _ => exact xk_s5 _ (List.mem_of_getElem? (i := 224) (by decide +kernel))
  | 4, _ => exact xk_s5 _ (List.mem_of_getElem? (i := 226) (by decide +kernel))
  | 5, _ => exact xk_s5 _ (List.mem_of_getElem? (i := 228) (by decide +kernel))
  | 6, _ => exact xk_s5 _ (List.mem_of_getElem? (i := 230) (by decide +kernel))
  | 7, _ => exact xk_s5 _ (List.mem_of_getElem? (i := 232) (by decide +kernel))
  | 8, _ => exact xk_s5 _ (List.mem_of_getElem? (i := 234) (by decide +kernel))
  | 9, _ => exact xk_s5 _ (List.mem_of_getElem? (i := 236) (by decide +kernel))
  | 10, _ => exact xk_s5 _ (List.mem_of_getElem? (i := 238) (by decide +kernel))
  | 11, _ => exact xk_s6 _ (List.mem_of_getElem? (i := 0) (by decide +kernel))
  | 12, _ => exact xk_s6 _ (List.mem_of_getElem? (i := 2) (by decide +kernel))
  | 13, _ => exact xk_s6 _ (List.mem_of_getElem? (i := 4) (by decide +kernel))
  | 14, _ => exact xk_s6 _ (List.mem_of_getElem? (i := 6) (by decide +kernel))
  | 15, _ => exact xk_s6 _ (List.mem_of_getElem? (i := 8) (by decide +kernel))
  | 16, _ => exact xk_s6 _ (List.mem_of_getElem? (i := 10) (by decide +kernel))
  | 17, _ => exact xk_s6 _ (List.mem_of_getElem? (i := 12) (by decide +kernel))
  | 18, _ => exact xk_s6 _ (List.mem_of_getElem? (i := 14) (by decide +kernel))
  | 19, _ => exact xk_s6 _ (List.mem_of_getElem? (i := 16) (by decide +kernel))
  | 20, _ => exact xk_s6 _ (List.mem_of_getElem? (i := 18) (by decide +kernel))
  | 21, _ => exact xk_s6 _ (List.mem_of_getElem? (i := 20) (by decide +kernel))
  | 22, _ => exact xk_s6 _ (List.mem_of_getElem? (i := 22) (by decide +kernel))
  | 23, _ => exact xk_s6 _ (List.mem_of_getElem? (i := 24) (by decide +kernel))
  | 24, _ => exact xk_s6 _ (List.mem_of_getElem? (i := 26) (by decide +kernel))
  | 25, _ => exact xk_s6 _ (List.mem_of_getElem? (i := 28) (by decide +kernel))
  | 26, _ => exact xk_s6 _ (List.mem_of_getElem? (i := 30) (by decide +kernel))
  | 27, _ => exact xk_s6 _ (List.mem_of_getElem? (i := 32) (by decide +kernel))
  | 28, _ => exact xk_s6 _ (List.mem_of_getElem? (i := 34) (by decide +kernel))
  | 29, _ => exact xk_s6 _ (List.mem_of_getElem? (i := 36) (by decide +kernel))
  | 30, _ => exact xk_s6 _ (List.mem_of_getElem? (i := 38) (by decide +kernel))
  | 31, _ => exact xk_s6 _ (List.mem_of_getElem? (i := 40) (by decide +kernel))
  | 32, _ => exact xk_s6 _ (List.mem_of_getElem? (i := 42) (by decide +kernel))
  | 33, _ => exact xk_s6 _ (List.mem_of_getElem? (i := 44) (by decide +kernel))
  | 34, _ => exact xk_s6 _ (List.mem_of_getElem? (i := 46) (by decide +kernel))
  | 35, _ => exact xk_s6 _ (List.mem_of_getElem? (i := 48) (by decide +kernel))
  | 36, _ => exact xk_s6 _ (List.mem_of_getElem? (i := 50) (by decide +kernel))
  | 37, _ => exact xk_s6 _ (List.mem_of_getElem? (i := 52) (by decide +kernel))
  | 38, _ => exact xk_s6 _ (List.mem_of_getElem? (i := 54) (by decide +kernel))
  | 39, _ => exact xk_s6 _ (List.mem_of_getElem? (i := 56) (by decide +kernel))
  | 40, _ => exact xk_s6 _ (List.mem_of_getElem? (i := 58) (by decide +kernel))
  | 41, _ => exact xk_s6 _ (List.mem_of_getElem? (i := 60) (by decide +kernel))
  | 42, _ => exact xk_s6 _ (List.mem_of_getElem? (i := 62) (by decide +kernel))
  | 43, _ => exact xk_s6 _ (List.mem_of_getElem? (i := 64) (by decide +kernel))
  | 44, _ => exact xk_s6 _ (List.mem_of_getElem? (i := 66) (by decide +kernel))
  | n + 45, h9 => exact absurd h9 (by omega)
theorem xk_guX6 : (u_ws RX6 TX6 45).all goodWord = true := by decide +kernel
set_option maxRecDepth 100000 in
theorem xk_cc0 : ∀ w ∈ xt_cq0.map xt_cw, w ∈ lw_tbl := fun w h => xk_s1 w (xk_of (big := tables_1_1) [36, 113, 79, 199, 166, 28, 40, 233] rfl w h)
set_option maxRecDepth 100000 in
theorem xk_cc1 : ∀ w ∈ xt_cq1.map xt_cw, w ∈ lw_tbl := fun w h => xk_s2 w (xk_of (big := tables_1_2) [74, 78, 44, 48, 136, 132, 200, 118, 83, 91, 66, 127, 141, 161, 164, 169, 173, 177, 59, 62, 213, 99, 107, 103, 181] rfl w h)
set_option maxRecDepth 100000 in
theorem xk_cc2 : ∀ w ∈ xt_cq2.map xt_cw, w ∈ lw_tbl := fun w h => xk_s2 w (xk_of (big := tables_1_2) [52, 56, 114, 192, 205, 217, 220, 233, 40, 70, 87, 95, 188, 196, 209, 225, 229, 237, 122, 110, 144, 184, 154] rfl w h)
set_option maxRecDepth 100000 in
theorem xk_cc3 : ∀ w ∈ xt_cq3.map xt_cw, w ∈ lw_tbl := fun w h => xk_s3 w (xk_of (big := tables_1_3) [18, 179, 1, 11, 15, 27, 35, 43, 47, 171, 224, 192, 196, 200, 204, 208, 212, 216, 231, 235, 220, 188, 175, 184, 51] rfl w h)
set_option maxRecDepth 100000 in
theorem xk_cc4 : ∀ w ∈ xt_cq4.map xt_cw, w ∈ lw_tbl := fun w h => xk_s3 w (xk_of (big := tables_1_3) [58, 69, 80, 84, 62, 54, 65, 72, 6, 22, 31, 39, 159, 162, 166, 103, 89, 93, 107, 97, 136, 113, 110, 118, 147] rfl w h)
set_option maxRecDepth 100000 in
theorem xk_cc5 : ∀ w ∈ xt_cq5.map xt_cw, w ∈ lw_tbl := fun w h => xk_s3 w (xk_of (big := tables_1_3) [133, 121, 127, 144, 156, 130, 141] rfl w h)
set_option maxRecDepth 100000 in
theorem xk_cc6 : ∀ w ∈ xt_cq6.map xt_cw, w ∈ lw_tbl := fun w h => xk_s4 w (xk_of (big := tables_1_4) [113, 131, 135, 139, 88, 215, 169, 177, 223, 228, 232, 236, 80, 84, 92, 100, 186, 199, 63, 27, 49, 72, 109, 127, 157] rfl w h)
set_option maxRecDepth 100000 in
theorem xk_cc7 : ∀ w ∈ xt_cq7.map xt_cw, w ∈ lw_tbl := fun w h => xk_s4 w (xk_of (big := tables_1_4) [41, 5, 10, 16, 20, 0, 33, 37, 45, 59, 68, 76, 96, 105, 122, 118, 144, 149, 153, 161, 173, 165, 182, 203, 211] rfl w h)
set_option maxRecDepth 100000 in
theorem xk_cc8 : ∀ w ∈ xt_cq8.map xt_cw, w ∈ lw_tbl := fun w h => xk_s4 w (xk_of (big := tables_1_4) [219, 52, 194, 190, 207] rfl w h)
set_option maxRecDepth 100000 in
theorem xk_cc9 : ∀ w ∈ xt_cq9.map xt_cw, w ∈ lw_tbl := fun w h => xk_s5 w (xk_of (big := tables_1_5) [4, 21, 0, 8, 12, 34, 105, 30, 113, 137, 156, 17, 168, 163, 159] rfl w h)
set_option maxRecDepth 100000 in
theorem xk_cc10 : ∀ w ∈ xt_cq10.map xt_cw, w ∈ lw_tbl := fun w h => xk_s6 w (xk_of (big := tables_1_6) [72, 81, 84, 87, 108, 112, 161, 95, 132, 76, 91, 100, 116, 104, 120, 124, 136, 141, 128, 145, 149, 157, 153, 169, 165] rfl w h)
set_option maxRecDepth 100000 in
theorem xk_cc11 : ∀ w ∈ xt_cq11.map xt_cw, w ∈ lw_tbl := fun w h => xk_s6 w (xk_of (big := tables_1_6) [173, 177, 181, 185, 201, 204, 209, 215, 197, 218, 193, 222, 238, 226, 234, 230, 189] rfl w h)
set_option maxRecDepth 100000 in
theorem xk_cc12 : ∀ w ∈ xt_cq12.map xt_cw, w ∈ lw_tbl := fun w h => xk_s7 w (xk_of (big := tables_1_7) [40, 17, 2, 25, 14, 21, 6, 10, 29, 33, 37, 44, 52, 48, 60, 64, 56, 73, 68, 77, 85, 81, 89, 93, 113] rfl w h)
set_option maxRecDepth 100000 in
theorem xk_cc13 : ∀ w ∈ xt_cq13.map xt_cw, w ∈ lw_tbl := fun w h => xk_s7 w (xk_of (big := tables_1_7) [127, 105, 109, 119, 123, 101, 97, 136, 131, 148, 140, 152, 144, 161, 165, 157, 169, 173, 181, 177, 186] rfl w h)
theorem xk_ccs : ∀ w ∈ xt_CQ.flatten.map xt_cw, w ∈ lw_tbl := fun w h => by
  obtain ⟨q, hq, rfl⟩ := List.mem_map.mp h
  obtain ⟨l, hl, h2⟩ := List.mem_flatten.mp hq
  unfold xt_CQ at hl
  simp only [List.mem_cons, List.not_mem_nil, or_false] at hl
  rcases hl with rfl | rfl | rfl | rfl | rfl | rfl | rfl | rfl | rfl | rfl | rfl | rfl | rfl | rfl
  · exact xk_cc0 _ (List.mem_map.mpr ⟨q, h2, rfl⟩)
  · exact xk_cc1 _ (List.mem_map.mpr ⟨q, h2, rfl⟩)
  · exact xk_cc2 _ (List.mem_map.mpr ⟨q, h2, rfl⟩)
  · exact xk_cc3 _ (List.mem_map.mpr ⟨q, h2, rfl⟩)
  · exact xk_cc4 _ (List.mem_map.mpr ⟨q, h2, rfl⟩)
  · exact xk_cc5 _ (List.mem_map.mpr ⟨q, h2, rfl⟩)
  · exact xk_cc6 _ (List.mem_map.mpr ⟨q, h2, rfl⟩)
  · exact xk_cc7 _ (List.mem_map.mpr ⟨q, h2, rfl⟩)
  · exact xk_cc8 _ (List.mem_map.mpr ⟨q, h2, rfl⟩)
  · exact xk_cc9 _ (List.mem_map.mpr ⟨q, h2, rfl⟩)
  · exact xk_cc10 _ (List.mem_map.mpr ⟨q, h2, rfl⟩)
  · exact xk_cc11 _ (List.mem_map.mpr ⟨q, h2, rfl⟩)
  · exact xk_cc12 _ (List.mem_map.mpr ⟨q, h2, rfl⟩)
  · exact xk_cc13 _ (List.mem_map.mpr ⟨q, h2, rfl⟩)
theorem xk_gcc : (xt_CQ.flatten.map xt_cw).all goodWord = true := by
  rw [List.all_map]
  exact List.all_eq_true.mpr fun _ _ => rfl
theorem xk_n : ∀ w ∈ xt_Nw, w ∈ lw_tbl := by
  unfold xt_Nw
  simp only [List.forall_mem_cons]
  exact ⟨xk_s1 _ (List.mem_of_getElem? (i := 48) (by decide +kernel)), xk_s2 _ (List.mem_of_getElem? (i := 128) (by decide +kernel)), xk_s2 _ (List.mem_of_getElem? (i := 129) (by decide +kernel)), xk_s2 _ (List.mem_of_getElem? (i := 133) (by decide +kernel)), xk_s4 _ (List.mem_of_getElem? (i := 187) (by decide +kernel)), xk_s4 _ (List.mem_of_getElem? (i := 195) (by decide +kernel)), xk_s1 _ (List.mem_of_getElem? (i := 82) (by decide +kernel)), xk_s1 _ (List.mem_of_getElem? (i := 54) (by decide +kernel)), xk_s2 _ (List.mem_of_getElem? (i := 115) (by decide +kernel)), xk_s1 _ (List.mem_of_getElem? (i := 49) (by decide +kernel)), xk_s3 _ (List.mem_of_getElem? (i := 2) (by decide +kernel)), xk_s3 _ (List.mem_of_getElem? (i := 12) (by decide +kernel)), xk_s4 _ (List.mem_of_getElem? (i := 110) (by decide +kernel)), xk_s4 _ (List.mem_of_getElem? (i := 128) (by decide +kernel)), xk_s1 _ (List.mem_of_getElem? (i := 92) (by decide +kernel)), xk_s1 _ (List.mem_of_getElem? (i := 178) (by decide +kernel)), xk_s1 _ (List.mem_of_getElem? (i := 170) (by decide +kernel)), xk_s1 _ (List.mem_of_getElem? (i := 174) (by decide +kernel)), xk_s3 _ (List.mem_of_getElem? (i := 176) (by decide +kernel)), xk_s3 _ (List.mem_of_getElem? (i := 48) (by decide +kernel)), xk_s3 _ (List.mem_of_getElem? (i := 180) (by decide +kernel)), xk_s4 _ (List.mem_of_getElem? (i := 24) (by decide +kernel)), xk_s3 _ (List.mem_of_getElem? (i := 227) (by decide +kernel)), xk_s4 _ (List.mem_of_getElem? (i := 11) (by decide +kernel)), xk_s4 _ (List.mem_of_getElem? (i := 22) (by decide +kernel)), xk_s4 _ (List.mem_of_getElem? (i := 23) (by decide +kernel)), xk_s4 _ (List.mem_of_getElem? (i := 21) (by decide +kernel)), xk_s3 _ (List.mem_of_getElem? (i := 236) (by decide +kernel)), xk_s1 _ (List.mem_of_getElem? (i := 89) (by decide +kernel)), xk_s1 _ (List.mem_of_getElem? (i := 50) (by decide +kernel)), xk_s4 _ (List.mem_of_getElem? (i := 1) (by decide +kernel)), xk_s1 _ (List.mem_of_getElem? (i := 172) (by decide +kernel)), xk_s1 _ (List.mem_of_getElem? (i := 34) (by decide +kernel)), xk_s1 _ (List.mem_of_getElem? (i := 77) (by decide +kernel)), xk_s1 _ (List.mem_of_getElem? (i := 111) (by decide +kernel)), xk_s1 _ (List.mem_of_getElem? (i := 164) (by decide +kernel)), xk_s1 _ (List.mem_of_getElem? (i := 197) (by decide +kernel)), xk_s1 _ (List.mem_of_getElem? (i := 231) (by decide +kernel)), xk_s2 _ (List.mem_of_getElem? (i := 41) (by decide +kernel)), xk_s1 _ (List.mem_of_getElem? (i := 53) (by decide +kernel)), xk_s2 _ (List.mem_of_getElem? (i := 45) (by decide +kernel)), xk_s2 _ (List.mem_of_getElem? (i := 49) (by decide +kernel)), xk_s2 _ (List.mem_of_getElem? (i := 63) (by decide +kernel)), xk_s2 _ (List.mem_of_getElem? (i := 71) (by decide +kernel)), xk_s2 _ (List.mem_of_getElem? (i := 75) (by decide +kernel)), xk_s2 _ (List.mem_of_getElem? (i := 80) (by decide +kernel)), xk_s2 _ (List.mem_of_getElem? (i := 88) (by decide +kernel)), xk_s2 _ (List.mem_of_getElem? (i := 96) (by decide +kernel)), xk_s2 _ (List.mem_of_getElem? (i := 100) (by decide +kernel)), xk_s2 _ (List.mem_of_getElem? (i := 111) (by decide +kernel)), xk_s2 _ (List.mem_of_getElem? (i := 189) (by decide +kernel)), xk_s2 _ (List.mem_of_getElem? (i := 197) (by decide +kernel)), xk_s2 _ (List.mem_of_getElem? (i := 202) (by decide +kernel)), xk_s2 _ (List.mem_of_getElem? (i := 210) (by decide +kernel)), xk_s2 _ (List.mem_of_getElem? (i := 123) (by decide +kernel)), xk_s2 _ (List.mem_of_getElem? (i := 214) (by decide +kernel)), xk_s1 _ (List.mem_of_getElem? (i := 88) (by decide +kernel)), xk_s2 _ (List.mem_of_getElem? (i := 230) (by decide +kernel)), xk_s2 _ (List.mem_of_getElem? (i := 238) (by decide +kernel)), xk_s3 _ (List.mem_of_getElem? (i := 8) (by decide +kernel)), xk_s3 _ (List.mem_of_getElem? (i := 23) (by decide +kernel)), xk_s3 _ (List.mem_of_getElem? (i := 24) (by decide +kernel)), xk_s3 _ (List.mem_of_getElem? (i := 32) (by decide +kernel)), xk_s1 _ (List.mem_of_getElem? (i := 91) (by decide +kernel)), xk_s2 _ (List.mem_of_getElem? (i := 124) (by decide +kernel)), xk_s2 _ (List.mem_of_getElem? (i := 178) (by decide +kernel)), xk_s5 _ (List.mem_of_getElem? (i := 31) (by decide +kernel)), xk_s5 _ (List.mem_of_getElem? (i := 102) (by decide +kernel)), xk_s1 _ (List.mem_of_getElem? (i := 176) (by decide +kernel)), xk_s3 _ (List.mem_of_getElem? (i := 40) (by decide +kernel)), xk_s1 _ (List.mem_of_getElem? (i := 209) (by decide +kernel)), xk_s1 _ (List.mem_of_getElem? (i := 210) (by decide +kernel)), xk_s4 _ (List.mem_of_getElem? (i := 38) (by decide +kernel)), xk_s4 _ (List.mem_of_getElem? (i := 46) (by decide +kernel)), xk_s4 _ (List.mem_of_getElem? (i := 60) (by decide +kernel)), xk_s4 _ (List.mem_of_getElem? (i := 69) (by decide +kernel)), xk_s1 _ (List.mem_of_getElem? (i := 128) (by decide +kernel)), xk_s4 _ (List.mem_of_getElem? (i := 77) (by decide +kernel)), xk_s4 _ (List.mem_of_getElem? (i := 97) (by decide +kernel)), xk_s4 _ (List.mem_of_getElem? (i := 106) (by decide +kernel)), xk_s4 _ (List.mem_of_getElem? (i := 124) (by decide +kernel)), xk_s4 _ (List.mem_of_getElem? (i := 140) (by decide +kernel)), xk_s1 _ (List.mem_of_getElem? (i := 51) (by decide +kernel)), xk_s4 _ (List.mem_of_getElem? (i := 145) (by decide +kernel)), xk_s4 _ (List.mem_of_getElem? (i := 154) (by decide +kernel)), xk_s4 _ (List.mem_of_getElem? (i := 166) (by decide +kernel)), xk_s4 _ (List.mem_of_getElem? (i := 174) (by decide +kernel)), xk_s1 _ (List.mem_of_getElem? (i := 237) (by decide +kernel)), xk_s4 _ (List.mem_of_getElem? (i := 183) (by decide +kernel)), xk_s4 _ (List.mem_of_getElem? (i := 204) (by decide +kernel)), xk_s4 _ (List.mem_of_getElem? (i := 212) (by decide +kernel)), xk_s4 _ (List.mem_of_getElem? (i := 220) (by decide +kernel)), xk_s5 _ (List.mem_of_getElem? (i := 18) (by decide +kernel)), fun _ h => absurd h List.not_mem_nil⟩
theorem xk_gn : xt_Nw.all xx_isN = true := by decide +kernel
theorem xk_gx : xt_wx.all goodWord = true := by decide +kernel
theorem xk_T : ∀ w ∈ xt_T, w ∈ lw_tbl ∨ w ∈ xt_wx := fun w hw => by
  obtain ⟨l, hl, h⟩ := List.mem_flatten.mp hw
  unfold xt_W at hl
  simp only [List.mem_cons, List.not_mem_nil, or_false] at hl
  rcases hl with rfl | rfl | rfl | rfl | rfl | rfl | rfl | rfl | rfl | rfl | rfl | rfl | rfl | rfl | rfl | rfl | rfl | rfl | rfl | rfl | rfl | rfl | rfl | rfl | rfl | rfl | rfl | rfl | rfl | rfl
  · exact Or.inl (xk_w0 w h)
  · exact Or.inl (xk_w1 w h)
  · exact Or.inl (xk_w2 w h)
  · exact Or.inl (xk_w3 w h)
  · exact Or.inl (xk_w4 w h)
  · exact Or.inl (xk_w5 w h)
  · exact Or.inl (xk_w6 w h)
  · exact Or.inl (xk_w7 w h)
  · exact Or.inl (xk_w8 w h)
  · exact Or.inl (xk_w9 w h)
  · exact Or.inl (xk_w10 w h)
  · exact Or.inl (xk_w11 w h)
  · exact Or.inl (xk_w12 w h)
  · exact Or.inl (xk_w13 w h)
  · exact Or.inl (xk_w14 w h)
  · exact Or.inl (xk_w15 w h)
  · exact Or.inl (xk_w16 w h)
  · exact Or.inl (xk_w17 w h)
  · exact Or.inl (xk_w18 w h)
  · exact Or.inl (xk_uX7 w h)
  · exact Or.inl (xk_uX7 w h)
  · exact Or.inl (xk_uX0 w h)
  · exact Or.inl (xk_uX1 w h)
  · exact Or.inl (xk_uX2 w h)
  · exact Or.inl (xk_uX3 w h)
  · exact Or.inl (xk_uX4 w h)
  · exact Or.inl (xk_uX5 w h)
  · exact Or.inl (xk_uX6 w h)
  · exact Or.inl (xk_ccs w h)
  · exact Or.inr h
theorem xk_G : ∀ w ∈ xt_T, goodWord w = true := fun w hw => by
  obtain ⟨l, hl, h⟩ := List.mem_flatten.mp hw
  unfold xt_W at hl
  simp only [List.mem_cons, List.not_mem_nil, or_false] at hl
  rcases hl with rfl | rfl | rfl | rfl | rfl | rfl | rfl | rfl | rfl | rfl | rfl | rfl | rfl | rfl | rfl | rfl | rfl | rfl | rfl | rfl | rfl | rfl | rfl | rfl | rfl | rfl | rfl | rfl | rfl | rfl
  · exact List.all_eq_true.mp xk_g0 w h
  · exact List.all_eq_true.mp xk_g1 w h
  · exact List.all_eq_true.mp xk_g2 w h
  · exact List.all_eq_true.mp xk_g3 w h
  · exact List.all_eq_true.mp xk_g4 w h
  · exact List.all_eq_true.mp xk_g5 w h
  · exact List.all_eq_true.mp xk_g6 w h
  · exact List.all_eq_true.mp xk_g7 w h
  · exact List.all_eq_true.mp xk_g8 w h
  · exact List.all_eq_true.mp xk_g9 w h
  · exact List.all_eq_true.mp xk_g10 w h
  · exact List.all_eq_true.mp xk_g11 w h
  · exact List.all_eq_true.mp xk_g12 w h
  · exact List.all_eq_true.mp xk_g13 w h
  · exact List.all_eq_true.mp xk_g14 w h
  · exact List.all_eq_true.mp xk_g15 w h
  · exact List.all_eq_true.mp xk_g16 w h
  · exact List.all_eq_true.mp xk_g17 w h
  · exact List.all_eq_true.mp xk_g18 w h
  · exact List.all_eq_true.mp xk_guX7 w h
  · exact List.all_eq_true.mp xk_guX7 w h
  · exact List.all_eq_true.mp xk_guX0 w h
  · exact List.all_eq_true.mp xk_guX1 w h
  · exact List.all_eq_true.mp xk_guX2 w h
  · exact List.all_eq_true.mp xk_guX3 w h
  · exact List.all_eq_true.mp xk_guX4 w h
  · exact List.all_eq_true.mp xk_guX5 w h
  · exact List.all_eq_true.mp xk_guX6 w h
  · exact List.all_eq_true.mp xk_gcc w h
  · exact List.all_eq_true.mp xk_gx w h
