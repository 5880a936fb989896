/-! ===== xk_: the words stand in the tables ===== -/
theorem xk_of {big ws : List Cond} (ps : List Nat) (h : ws = ps.filterMap (fun i => big[i]?)) : ∀ w ∈ ws, w ∈ big := fun w hw => by
  rw [h] at hw
  obtain ⟨i, -, hi⟩ := List.mem_filterMap.mp hw
  exact List.mem_of_getElem? hi
theorem xk_sp : ∀ w ∈ k2_sels lw_privs, w ∈ lw_tbl := fun w h => List.mem_append_left _ h
theorem xk_s1 : ∀ w ∈ tables_1_1, w ∈ lw_tbl := fun w h => List.mem_append_right _ (show w ∈ tables_1 from List.mem_append_left _ h)
theorem xk_s2 : ∀ w ∈ tables_1_2, w ∈ lw_tbl := fun w h => List.mem_append_right _ (show w ∈ tables_1 from List.mem_append_right _ (List.mem_append_left _ h))
theorem xk_s3 : ∀ w ∈ tables_1_3, w ∈ lw_tbl := fun w h => List.mem_append_right _ (show w ∈ tables_1 from List.mem_append_right _ (List.mem_append_right _ (List.mem_append_left _ h)))
theorem xk_s4 : ∀ w ∈ tables_1_4, w ∈ lw_tbl := fun w h => List.mem_append_right _ (show w ∈ tables_1 from List.mem_append_right _ (List.mem_append_right _ (List.mem_append_right _ (List.mem_append_left _ h))))
theorem xk_s5 : ∀ w ∈ tables_1_5, w ∈ lw_tbl := fun w h => List.mem_append_right _ (show w ∈ tables_1 from List.mem_append_right _ (List.mem_append_right _ (List.mem_append_right _ (List.mem_append_right _ (List.mem_append_left _ h)))))
theorem xk_s6 : ∀ w ∈ tables_1_6, w ∈ lw_tbl := fun w h => List.mem_append_right _ (show w ∈ tables_1 from List.mem_append_right _ (List.mem_append_right _ (List.mem_append_right _ (List.mem_append_right _ (List.mem_append_right _ (List.mem_append_left _ h))))))
theorem xk_s7 : ∀ w ∈ tables_1_7, w ∈ lw_tbl := fun w h => List.mem_append_right _ (show w ∈ tables_1 from List.mem_append_right _ (List.mem_append_right _ (List.mem_append_right _ (List.mem_append_right _ (List.mem_append_right _ (List.mem_append_right _ (List.mem_append_left _ h)))))))
theorem xk_s8 : ∀ w ∈ tables_1_8, w ∈ lw_tbl := fun w h => List.mem_append_right _ (show w ∈ tables_1 from List.mem_append_right _ (List.mem_append_right _ (List.mem_append_right _ (List.mem_append_right _ (List.mem_append_right _ (List.mem_append_right _ (List.mem_append_right _ (h))))))))
theorem xk_w0 : ∀ w ∈ xt_w0, w ∈ lw_tbl := fun w h => xk_sp w (xk_of (big := k2_sels lw_privs) [5, 17, 13, 78, 79, 70, 16, 15, 18, 19, 20, 21, 22, 86, 88, 87, 89, 91, 90, 92, 93, 94, 69, 71, 72, 85, 27, 11, 3, 74, 77, 35, 42, 44, 36, 43, 9, 45, 46, 47, 55, 63, 48, 28, 49, 54, 50, 51, 52, 53, 59, 60, 61, 56, 58, 57, 62, 12, 6, 31] (by decide +kernel) w h)
theorem xk_g0 : xt_w0.all goodWord = true := by decide +kernel
theorem xk_w1 : ∀ w ∈ xt_w1, w ∈ lw_tbl := fun w h => xk_sp w (xk_of (big := k2_sels lw_privs) [37, 38, 39, 40, 41, 0, 1, 2, 4, 7, 8, 10, 14, 24, 25, 26, 29, 30, 32, 33, 23, 96, 97, 34, 64, 65, 66, 67, 68, 73, 75, 76, 80, 81, 82, 84, 95, 100, 98, 99, 101, 102, 103, 105, 104, 106, 109, 108, 110, 111, 121, 107, 115, 116, 117, 118, 112, 119, 114, 120] (by decide +kernel) w h)
theorem xk_g1 : xt_w1.all goodWord = true := by decide +kernel
theorem xk_w2 : ∀ w ∈ xt_w2, w ∈ lw_tbl := fun w h => xk_sp w (xk_of (big := k2_sels lw_privs) [113, 122, 123, 124, 125, 126, 130, 131, 133, 129, 128, 132, 127, 134, 135, 136, 137, 138] (by decide +kernel) w h)
theorem xk_g2 : xt_w2.all goodWord = true := by decide +kernel
theorem xk_w3 : ∀ w ∈ xt_w3, w ∈ lw_tbl := fun w h => xk_s1 w (xk_of (big := tables_1_1) [40, 33, 34, 75, 44, 45, 46, 76, 47, 77, 48, 41, 3, 42, 55, 50, 2, 49, 117, 119, 120, 121, 122, 123, 124, 125, 126, 127, 128, 129, 118, 132, 5, 4, 130, 133, 14, 9, 83, 84, 87, 88, 89, 90, 86, 93, 96, 13, 23, 203, 204, 208, 205, 206, 207, 211, 7, 210, 6, 209] (by decide +kernel) w h)
theorem xk_g3 : xt_w3.all goodWord = true := by decide +kernel
theorem xk_w4 : ∀ w ∈ xt_w4, w ∈ lw_tbl := fun w h => xk_s1 w (xk_of (big := tables_1_1) [214, 170, 171, 172, 174, 176, 178, 180, 182, 10, 32, 35, 36, 38, 78, 79, 81, 112, 113, 115, 165, 166, 168, 198, 199, 201, 232, 233, 234, 235, 1, 12, 11, 8, 25, 20, 26, 21, 237, 238, 22, 27, 28, 29, 30] (by decide +kernel) w h)
theorem xk_g4 : xt_w4.all goodWord = true := by decide +kernel
theorem xk_w5 : ∀ w ∈ xt_w5, w ∈ lw_tbl := fun w h => xk_s2 w (xk_of (big := tables_1_2) [101, 95, 223, 157, 139, 80, 153, 159, 148, 160, 162, 180, 182, 164, 165, 184, 185, 187, 188, 190, 192, 194, 196, 198, 179, 178, 234, 126, 128, 130, 131, 204, 205, 75, 77, 79, 82, 83, 120, 175, 238, 135, 99, 25, 26, 27, 28, 29, 30, 31, 33, 65, 69, 73, 87, 104, 112, 124, 141, 143] (by decide +kernel) w h)
theorem xk_g5 : xt_w5.all goodWord = true := by decide +kernel
theorem xk_w6 : ∀ w ∈ xt_w6, w ∈ lw_tbl := fun w h => xk_s2 w (xk_of (big := tables_1_2) [213, 221, 226, 202, 32, 34, 35, 24, 0, 1, 10, 11, 3, 4, 14, 12, 13, 23, 6, 7, 9, 174, 177, 59, 60, 61, 89, 90, 91, 106, 107, 108, 114, 115, 116, 207, 208, 209, 215, 216, 217, 228, 229, 230] (by decide +kernel) w h)
theorem xk_g6 : xt_w6.all goodWord = true := by decide +kernel
theorem xk_w7 : ∀ w ∈ xt_w7, w ∈ lw_tbl := fun w h => xk_s3 w (xk_of (big := tables_1_3) [3, 0, 1, 35, 36, 38, 39, 66, 68, 189, 191, 199, 72, 193, 195, 202, 204, 206, 208, 210, 212, 214, 216, 218, 220, 238, 222, 224, 226, 228, 230, 232, 234, 236, 32, 74, 75, 77, 79, 81, 83, 85, 86, 88, 90, 92, 93, 99, 101, 103, 105, 95, 96, 97, 98, 108, 109, 110, 14, 22] (by decide +kernel) w h)
theorem xk_g7 : xt_w7.all goodWord = true := by decide +kernel
theorem xk_w8 : ∀ w ∈ xt_w8, w ∈ lw_tbl := fun w h => xk_s3 w (xk_of (big := tables_1_3) [29, 48, 56, 64, 167, 122, 123, 126, 127, 184, 188, 125, 112, 113, 114, 116, 117, 118, 121, 129, 130, 140, 141, 120, 158, 160, 161, 132, 133, 135, 136, 137, 138, 169, 152, 153, 171, 173, 166, 143, 144, 145, 146, 147, 175, 176, 149, 150, 163, 164, 178, 179, 181, 182, 185, 186, 155, 156, 4, 5] (by decide +kernel) w h)
theorem xk_g8 : xt_w8.all goodWord = true := by decide +kernel
theorem xk_w9 : ∀ w ∈ xt_w9, w ∈ lw_tbl := fun w h => xk_s3 w (xk_of (big := tables_1_3) [6, 8, 9, 10, 16, 17, 18, 25, 26, 27, 41, 42, 43, 50, 51, 52, 58, 59, 60] (by decide +kernel) w h)
theorem xk_g9 : xt_w9.all goodWord = true := by decide +kernel
theorem xk_w10 : ∀ w ∈ xt_w10, w ∈ lw_tbl := fun w h => xk_s4 w (xk_of (big := tables_1_4) [134, 152, 154, 156, 158, 105, 107, 101, 103, 109, 111, 121, 119, 84, 49, 70, 71, 132, 150, 2, 4, 47, 6, 7, 0, 23, 25, 28, 30, 34, 36, 9, 11, 18, 20, 27, 33, 13, 15, 38, 40, 60, 68, 82, 91, 99, 128, 135, 137, 143, 146, 176, 182, 183, 184, 188, 196, 203, 204, 205] (by decide +kernel) w h)
theorem xk_g10 : xt_w10.all goodWord = true := by decide +kernel
theorem xk_w11 : ∀ w ∈ xt_w11, w ∈ lw_tbl := fun w h => xk_s4 w (xk_of (big := tables_1_4) [214, 216, 227, 228, 218, 219, 226, 235, 236, 238, 210, 212, 73, 74, 75, 207, 208, 221, 222, 223, 224, 50, 51, 52, 54, 55, 56, 62, 63, 64, 76, 77, 78, 85, 86, 87, 93, 94, 95, 113, 114, 115, 122, 123, 124, 139, 140, 141, 161, 162, 163, 166, 167, 168, 170, 171, 172, 178, 179, 180] (by decide +kernel) w h)
theorem xk_g11 : xt_w11.all goodWord = true := by decide +kernel
theorem xk_w12 : ∀ w ∈ xt_w12, w ∈ lw_tbl := fun w h => xk_s4 w (xk_of (big := tables_1_4) [190, 191, 192, 198, 199, 200, 201] (by decide +kernel) w h)
theorem xk_g12 : xt_w12.all goodWord = true := by decide +kernel
theorem xk_w13 : ∀ w ∈ xt_w13, w ∈ lw_tbl := fun w h => xk_s5 w (xk_of (big := tables_1_5) [223, 106, 107, 224, 225, 226, 221, 154, 84, 85, 0, 1, 215, 216, 60, 62, 70, 71, 73, 64, 65, 231, 232, 80, 82, 234, 235, 112, 113, 115, 116, 122, 123, 79, 75, 77, 99, 100, 101, 118, 120, 141, 142, 204, 103, 104, 144, 145, 146, 148, 158, 205, 159, 160, 194, 195, 201, 202, 96, 97] (by decide +kernel) w h)
theorem xk_g13 : xt_w13.all goodWord = true := by decide +kernel
theorem xk_w14 : ∀ w ∈ xt_w14, w ∈ lw_tbl := fun w h => xk_s5 w (xk_of (big := tables_1_5) [57, 58, 228, 229, 109, 110, 136, 137, 138, 139, 156, 151, 152, 3, 4, 87, 88, 197, 198, 200, 90, 91, 218, 237, 238, 67, 68, 125, 126, 128, 129, 93, 94, 50, 51, 53, 54, 55, 105, 132, 133, 134, 6, 7, 162, 163, 165, 166] (by decide +kernel) w h)
theorem xk_g14 : xt_w14.all goodWord = true := by decide +kernel
theorem xk_w15 : ∀ w ∈ xt_w15, w ∈ lw_tbl := fun w h => xk_s6 w (xk_of (big := tables_1_6) [41, 31, 42, 44, 79, 39, 46, 48, 54, 56, 50, 52, 58, 60, 62, 64, 66, 68, 70, 6, 8, 90, 110, 147, 148, 150, 151, 153, 154, 155, 10, 15, 16, 17, 77, 162, 168, 169, 170, 171, 172, 173, 174, 176, 177, 178, 181, 182, 184, 185, 195, 197, 198, 163, 201, 202, 164, 203, 165, 205] (by decide +kernel) w h)
theorem xk_g15 : xt_w15.all goodWord = true := by decide +kernel
theorem xk_w16 : ∀ w ∈ xt_w16, w ∈ lw_tbl := fun w h => xk_s6 w (xk_of (big := tables_1_6) [206, 207, 208, 209, 166, 167, 175, 179, 188, 180, 194, 189, 191, 190, 192, 193, 199, 196, 200, 183, 186, 187, 204, 210, 22, 23, 1, 24, 3, 4, 19, 20, 0, 157, 158, 159, 160, 11, 12, 13, 25, 26, 27, 33, 34, 35, 71, 72, 73, 84, 85, 86, 116, 117, 118, 127, 128, 129] (by decide +kernel) w h)
theorem xk_g16 : xt_w16.all goodWord = true := by decide +kernel
theorem xk_w17 : ∀ w ∈ xt_w17, w ∈ lw_tbl := fun w h => xk_s7 w (xk_of (big := tables_1_7) [102, 104, 72, 73, 70, 71, 75, 76, 78, 79, 85, 87, 89, 98, 100, 106, 108, 130, 122, 124, 126, 127, 128, 131, 133, 151, 153, 147, 149, 159, 161, 198, 199, 203, 204, 191, 193, 187, 189, 195, 196, 200, 201, 205, 207, 209, 210, 212, 214, 183, 185, 228, 230, 232, 234, 236, 238, 216, 218, 224] (by decide +kernel) w h)
theorem xk_g17 : xt_w17.all goodWord = true := by decide +kernel
theorem xk_w18 : ∀ w ∈ xt_w18, w ∈ lw_tbl := fun w h => xk_s7 w (xk_of (big := tables_1_7) [226, 220, 222, 66, 67, 68, 81, 82, 83, 90, 91, 92, 94, 95, 96, 110, 111, 112, 114, 115, 116, 118, 119, 120, 135, 136, 137, 139, 140, 141, 143, 144, 145, 155, 156, 157, 163, 164, 165, 167, 168, 169, 171, 172, 173, 62, 63, 64, 175, 176, 177, 179, 180, 181] (by decide +kernel) w h)
theorem xk_g18 : xt_w18.all goodWord = true := by decide +kernel
theorem xk_w19 : ∀ w ∈ xt_w19, w ∈ lw_tbl := fun w h => xk_s8 w (xk_of (big := tables_1_8) [191, 8, 9, 15, 17, 0, 2, 4, 6, 11, 13, 31, 32, 42, 44, 50, 52, 54, 56, 62, 63, 65, 75, 77, 103, 105, 107, 108, 109, 111, 117, 119, 99, 101, 95, 97, 113, 115, 91, 93, 125, 88, 89, 126, 128, 134, 135, 136, 138, 140, 151, 153, 155, 157, 175, 164, 165, 171, 173, 184] (by decide +kernel) w h)
theorem xk_g19 : xt_w19.all goodWord = true := by decide +kernel
theorem xk_w20 : ∀ w ∈ xt_w20, w ∈ lw_tbl := fun w h => xk_s8 w (xk_of (big := tables_1_8) [190, 189, 192, 180, 19, 20, 21, 23, 24, 25, 27, 28, 29, 34, 35, 36, 38, 39, 40, 87, 121, 122, 123, 46, 47, 48, 58, 59, 60, 67, 68, 69, 71, 72, 73, 79, 80, 81, 83, 84, 85, 130, 131, 132, 142, 143, 144, 146, 147, 148, 149, 159, 160, 161, 163, 167, 168, 169, 176, 177] (by decide +kernel) w h)
theorem xk_g20 : xt_w20.all goodWord = true := by decide +kernel
theorem xk_w21 : ∀ w ∈ xt_w21, w ∈ lw_tbl := fun w h => xk_s8 w (xk_of (big := tables_1_8) [178] (by decide +kernel) w h)
theorem xk_g21 : xt_w21.all goodWord = true := by decide +kernel
theorem xk_uJ0 : ∀ w ∈ u_ws RJ0 TJ0 4, w ∈ lw_tbl := by
  intro w hw
  obtain ⟨j, hj, rfl⟩ := List.mem_map.mp hw
  have hj := List.mem_range.mp hj
  match j, hj with
  | 0, _ => exact xk_s5 _ (List.mem_of_getElem? (i := 206) (by decide +kernel))
  | 1, _ => exact xk_s5 _ (List.mem_of_getElem? (i := 208) (by decide +kernel))
  | 2, _ => exact xk_s5 _ (List.mem_of_getElem? (i := 210) (by decide +kernel))
  | 3, _ => exact xk_s5 _ (List.mem_of_getElem? (i := 212) (by decide +kernel))
  | n + 4, h9 => exact absurd h9 (by omega)
theorem xk_guJ0 : (u_ws RJ0 TJ0 4).all goodWord = true := by decide +kernel
theorem xk_uJ4 : ∀ w ∈ u_ws RJ4 TJ4 4, w ∈ lw_tbl := by
  intro w hw
  obtain ⟨j, hj, rfl⟩ := List.mem_map.mp hw
  have hj := List.mem_range.mp hj
  match j, hj with
  | 0, _ => exact xk_s2 _ (List.mem_of_getElem? (i := 15) (by decide +kernel))
  | 1, _ => exact xk_s2 _ (List.mem_of_getElem? (i := 17) (by decide +kernel))
  | 2, _ => exact xk_s2 _ (List.mem_of_getElem? (i := 19) (by decide +kernel))
  | 3, _ => exact xk_s2 _ (List.mem_of_getElem? (i := 21) (by decide +kernel))
  | n + 4, h9 => exact absurd h9 (by omega)
theorem xk_guJ4 : (u_ws RJ4 TJ4 4).all goodWord = true := by decide +kernel
theorem xk_uX0 : ∀ w ∈ u_ws RX0 TX0 8, w ∈ lw_tbl := by
  intro w hw
  obtain ⟨j, hj, rfl⟩ := List.mem_map.mp hw
  have hj := List.mem_range.mp hj
  match j, hj with
  | 0, _ => exact xk_s1 _ (List.mem_of_getElem? (i := 58) (by decide +kernel))
  | 1, _ => exact xk_s1 _ (List.mem_of_getElem? (i := 60) (by decide +kernel))
  | 2, _ => exact xk_s1 _ (List.mem_of_getElem? (i := 62) (by decide +kernel))
  | 3, _ => exact xk_s1 _ (List.mem_of_getElem? (i := 64) (by decide +kernel))
  | 4, _ => exact xk_s1 _ (List.mem_of_getElem? (i := 66) (by decide +kernel))
  | 5, _ => exact xk_s1 _ (List.mem_of_getElem? (i := 68) (by decide +kernel))
  | 6, _ => exact xk_s1 _ (List.mem_of_getElem? (i := 70) (by decide +kernel))
  | 7, _ => exact xk_s1 _ (List.mem_of_getElem? (i := 72) (by decide +kernel))
  | n + 8, h9 => exact absurd h9 (by omega)
theorem xk_guX0 : (u_ws RX0 TX0 8).all goodWord = true := by decide +kernel
theorem xk_uX1 : ∀ w ∈ u_ws RX1 TX1 15, w ∈ lw_tbl := by
  intro w hw
  obtain ⟨j, hj, rfl⟩ := List.mem_map.mp hw
  have hj := List.mem_range.mp hj
  match j, hj with
  | 0, _ => exact xk_s1 _ (List.mem_of_getElem? (i := 134) (by decide +kernel))
  | 1, _ => exact xk_s1 _ (List.mem_of_getElem? (i := 136) (by decide +kernel))
  | 2, _ => exact xk_s1 _ (List.mem_of_getElem? (i := 138) (by decide +kernel))
  | 3, _ => exact xk_s1 _ (List.mem_of_getElem? (i := 140) (by decide +kernel))
  | 4, _ => exact xk_s1 _ (List.mem_of_getElem? (i := 142) (by decide +kernel))
  | 5, _ => exact xk_s1 _ (List.mem_of_getElem? (i := 144) (by decide +kernel))
  | 6, _ => exact xk_s1 _ (List.mem_of_getElem? (i := 146) (by decide +kernel))
  | 7, _ => exact xk_s1 _ (List.mem_of_getElem? (i := 148) (by decide +kernel))
  | 8, _ => exact xk_s1 _ (List.mem_of_getElem? (i := 150) (by decide +kernel))
  | 9, _ => exact xk_s1 _ (List.mem_of_getElem? (i := 152) (by decide +kernel))
  | 10, _ => exact xk_s1 _ (List.mem_of_getElem? (i := 154) (by decide +kernel))
  | 11, _ => exact xk_s1 _ (List.mem_of_getElem? (i := 156) (by decide +kernel))
  | 12, _ => exact xk_s1 _ (List.mem_of_getElem? (i := 158) (by decide +kernel))
  | 13, _ => exact xk_s1 _ (List.mem_of_getElem? (i := 160) (by decide +kernel))
  | 14, _ => exact xk_s1 _ (List.mem_of_getElem? (i := 162) (by decide +kernel))
  | n + 15, h9 => exact absurd h9 (by omega)
theorem xk_guX1 : (u_ws RX1 TX1 15).all goodWord = true := by decide +kernel
theorem xk_uX2 : ∀ w ∈ u_ws RX2 TX2 7, w ∈ lw_tbl := by
  intro w hw
  obtain ⟨j, hj, rfl⟩ := List.mem_map.mp hw
  have hj := List.mem_range.mp hj
  match j, hj with
  | 0, _ => exact xk_s1 _ (List.mem_of_getElem? (i := 97) (by decide +kernel))
  | 1, _ => exact xk_s1 _ (List.mem_of_getElem? (i := 99) (by decide +kernel))
  | 2, _ => exact xk_s1 _ (List.mem_of_getElem? (i := 101) (by decide +kernel))
  | 3, _ => exact xk_s1 _ (List.mem_of_getElem? (i := 103) (by decide +kernel))
  | 4, _ => exact xk_s1 _ (List.mem_of_getElem? (i := 105) (by decide +kernel))
  | 5, _ => exact xk_s1 _ (List.mem_of_getElem? (i := 107) (by decide +kernel))
  | 6, _ => exact xk_s1 _ (List.mem_of_getElem? (i := 109) (by decide +kernel))
  | n + 7, h9 => exact absurd h9 (by omega)
theorem xk_guX2 : (u_ws RX2 TX2 7).all goodWord = true := by decide +kernel
theorem xk_uX3 : ∀ w ∈ u_ws RX3 TX3 8, w ∈ lw_tbl := by
  intro w hw
  obtain ⟨j, hj, rfl⟩ := List.mem_map.mp hw
  have hj := List.mem_range.mp hj
  match j, hj with
  | 0, _ => exact xk_s1 _ (List.mem_of_getElem? (i := 215) (by decide +kernel))
  | 1, _ => exact xk_s1 _ (List.mem_of_getElem? (i := 217) (by decide +kernel))
  | 2, _ => exact xk_s1 _ (List.mem_of_getElem? (i := 219) (by decide +kernel))
  | 3, _ => exact xk_s1 _ (List.mem_of_getElem? (i := 221) (by decide +kernel))
  | 4, _ => exact xk_s1 _ (List.mem_of_getElem? (i := 223) (by decide +kernel))
  | 5, _ => exact xk_s1 _ (List.mem_of_getElem? (i := 225) (by decide +kernel))
  | 6, _ => exact xk_s1 _ (List.mem_of_getElem? (i := 227) (by decide +kernel))
  | 7, _ => exact xk_s1 _ (List.mem_of_getElem? (i := 229) (by decide +kernel))
  | n + 8, h9 => exact absurd h9 (by omega)
theorem xk_guX3 : (u_ws RX3 TX3 8).all goodWord = true := by decide +kernel
theorem xk_uX4 : ∀ w ∈ u_ws RX4 TX4 7, w ∈ lw_tbl := by
  intro w hw
  obtain ⟨j, hj, rfl⟩ := List.mem_map.mp hw
  have hj := List.mem_range.mp hj
  match j, hj with
  | 0, _ => exact xk_s1 _ (List.mem_of_getElem? (i := 183) (by decide +kernel))
  | 1, _ => exact xk_s1 _ (List.mem_of_getElem? (i := 185) (by decide +kernel))
  | 2, _ => exact xk_s1 _ (List.mem_of_getElem? (i := 187) (by decide +kernel))
  | 3, _ => exact xk_s1 _ (List.mem_of_getElem? (i := 189) (by decide +kernel))
  | 4, _ => exact xk_s1 _ (List.mem_of_getElem? (i := 191) (by decide +kernel))
  | 5, _ => exact xk_s1 _ (List.mem_of_getElem? (i := 193) (by decide +kernel))
  | 6, _ => exact xk_s1 _ (List.mem_of_getElem? (i := 195) (by decide +kernel))
  | n + 7, h9 => exact absurd h9 (by omega)
theorem xk_guX4 : (u_ws RX4 TX4 7).all goodWord = true := by decide +kernel
theorem xk_uX5 : ∀ w ∈ u_ws RX5 TX5 11, w ∈ lw_tbl := by
  intro w hw
  obtain ⟨j, hj, rfl⟩ := List.mem_map.mp hw
  have hj := List.mem_range.mp hj
  match j, hj with
  | 0, _ => exact xk_s2 _ (List.mem_of_getElem? (i := 36) (by decide +kernel))
  | 1, _ => exact xk_s2 _ (List.mem_of_getElem? (i := 38) (by decide +kernel))
  | 2, _ => exact xk_s2 _ (List.mem_of_getElem? (i := 40) (by decide +kernel))
  | 3, _ => exact xk_s2 _ (List.mem_of_getElem? (i := 42) (by decide +kernel))
  | 4, _ => exact xk_s2 _ (List.mem_of_getElem? (i := 44) (by decide +kernel))
  | 5, _ => exact xk_s2 _ (List.mem_of_getElem? (i := 46) (by decide +kernel))
  | 6, _ => exact xk_s2 _ (List.mem_of_getElem? (i := 48) (by decide +kernel))
  | 7, _ => exact xk_s2 _ (List.mem_of_getElem? (i := 50) (by decide +kernel))
  | 8, _ => exact xk_s2 _ (List.mem_of_getElem? (i := 52) (by decide +kernel))
  | 9, _ => exact xk_s2 _ (List.mem_of_getElem? (i := 54) (by decide +kernel))
  | 10, _ => exact xk_s2 _ (List.mem_of_getElem? (i := 56) (by decide +kernel))
  | n + 11, h9 => exact absurd h9 (by omega)
theorem xk_guX5 : (u_ws RX5 TX5 11).all goodWord = true := by decide +kernel
theorem xk_uX6 : ∀ w ∈ u_ws RX6 TX6 45, w ∈ lw_tbl := by
  intro w hw
  obtain ⟨j, hj, rfl⟩ := List.mem_map.mp hw
  have hj := List.mem_range.mp hj
  match j, hj with
  | 0, _ => exact xk_s6 _ (List.mem_of_getElem? (i := 211) (by decide +kernel))
  | 1, _ => exact xk_s6 _ (List.mem_of_getElem? (i := 213) (by decide +kernel))
  | 2, _ => exact xk_s6 _ (List.mem_of_getElem? (i := 215) (by decide +kernel))
  | 3, _ => exact xk_s6 _ (List.mem_of_getElem? (i := 217) (by decide +kernel))
  | 4, _ => exact xk_s6 _ (List.mem_of_getElem? (i := 219) (by decide +kernel))
  | 5, _ => exact xk_s6 _ (List.mem_of_getElem? (i := 221) (by decide +kernel))
  | 6, _ => exact xk_s6 _ (List.mem_of_getElem? (i := 223) (by decide +kernel))
  | 7, _ => exact xk_s6 _ (List.mem_of_getElem? (i := 225) (by decide +kernel))
  | 8, _ => exact xk_s6 _ (List.mem_of_getElem? (i := 227) (by decide +kernel))
  | 9, _ => exact xk_s6 _ (List.mem_of_getElem? (i := 229) (by decide +kernel))
  | 10, _ => exact xk_s6 _ (List.mem_of_getElem? (i := 231) (by decide +kernel))
  | 11, _ => exact xk_s6 _ (List.mem_of_getElem? (i := 233) (by decide +kernel))
  | 12, _ => exact xk_s6 _ (List.mem_of_getElem? (i := 235) (by decide +kernel))
  | 13, _ => exact xk_s6 _ (List.mem_of_getElem? (i := 237) (by decide +kernel))
  | 14, _ => exact xk_s6 _ (List.mem_of_getElem? (i := 239) (by decide +kernel))
  | 15, _ => exact xk_s7 _ (List.mem_of_getElem? (i := 1) (by decide +kernel))
  | 16, _ => exact xk_s7 _ (List.mem_of_getElem? (i := 3) (by decide +kernel))
  | 17, _ => exact xk_s7 _ (List.mem_of_getElem? (i := 5) (by decide +kernel))
  | 18, _ => exact xk_s7 _ (List.mem_of_getElem? (i := 7) (by decide +kernel))
  | 19, _ => exact xk_s7 _ (List.mem_of_getElem? (i := 9) (by decide +kernel))
  | 20, _ => exact xk_s7 _ (List.mem_of_getElem? (i := 11) (by decide +kernel))
  | 21, _ => exact xk_s7 _ (List.mem_of_getElem? (i := 13) (by decide +kernel))
  | 22, _ => exact xk_s7 _ (List.mem_of_getElem? (i := 15) (by decide +kernel))
  | 23, _ => exact xk_s7 _ (List.mem_of_getElem? (i := 17) (by decide +kernel))
  | 24, _ => exact xk_s7 _ (List.mem_of_getElem? (i := 19) (by decide +kernel))
  | 25, _ => exact xk_s7 _ (List.mem_of_getElem? (i := 21) (by decide +kernel))
  | 26, _ => exact xk_s7 _ (List.mem_of_getElem? (i := 23) (by decide +kernel))
  | 27, _ => exact xk_s7 _ (List.mem_of_getElem? (i := 25) (by decide +kernel))
  | 28, _ => exact xk_s7 _ (List.mem_of_getElem? (i := 27) (by decide +kernel))
  | 29, _ => exact xk_s7 _ (List.mem_of_getElem? (i := 29) (by decide +kernel))
  | 30, _ => exact xk_s7 _ (List.mem_of_getElem? (i := 31) (by decide +kernel))
  | 31, _ => exact xk_s7 _ (List.mem_of_getElem? (i := 33) (by decide +kernel))
  | 32, _ => exact xk_s7 _ (List.mem_of_getElem? (i := 35) (by decide +kernel))
  | 33, _ => exact xk_s7 _ (List.mem_of_getElem? (i := 37) (by decide +kernel))
  | 34, _ => exact xk_s7 _ (List.mem_of_getElem? (i := 39) (by decide +kernel))
  | 35, _ => exact xk_s7 _ (List.mem_of_getElem? (i := 41) (by decide +kernel))
  | 36, _ => exact xk_s7 _ (List.mem_of_getElem? (i := 43) (by decide +kernel))
  | 37, _ => exact xk_s7 _ (List.mem_of_getElem? (i := 45) (by decide +kernel))
  | 38, _ => exact xk_s7 _ (List.mem_of_getElem? (i := 47) (by decide +kernel))
  | 39, _ => exact xk_s7 _ (List.mem_of_getElem? (i := 49) (by decide +kernel))
  | 40, _ => exact xk_s7 _ (List.mem_of_getElem? (i := 51) (by decide +kernel))
  | 41, _ => exact xk_s7 _ (List.mem_of_getElem? (i := 53) (by decide +kernel))
  | 42, _ => exact xk_s7 _ (List.mem_of_getElem? (i := 55) (by decide +kernel))
  | 43, _ => exact xk_s7 _ (List.mem_of_getElem? (i := 57) (by decide +kernel))
  | 44, _ => exact xk_s7 _ (List.mem_of_getElem? (i := 59) (by decide +kernel))
  | n + 45, h9 => exact absurd h9 (by omega)
theorem xk_guX6 : (u_ws RX6 TX6 45).all goodWord = true := by decide +kernel
set_option maxRecDepth 100000 in
theorem xk_cc0 : ∀ w ∈ xt_cq0.map xt_cw, w ∈ lw_tbl := fun w h => xk_s1 w (xk_of (big := tables_1_1) [39, 116, 82, 202, 169, 31, 239, 236, 43] rfl w h)
set_option maxRecDepth 100000 in
theorem xk_cc1 : ∀ w ∈ xt_cq1.map xt_cw, w ∈ lw_tbl := fun w h => xk_s2 w (xk_of (big := tables_1_2) [96, 100, 66, 70, 158, 154, 222, 140, 105, 113, 88, 149, 163, 183, 186, 191, 195, 199, 81, 84, 235, 121, 129, 125, 203] rfl w h)
set_option maxRecDepth 100000 in
theorem xk_cc2 : ∀ w ∈ xt_cq2.map xt_cw, w ∈ lw_tbl := fun w h => xk_s2 w (xk_of (big := tables_1_2) [74, 78, 136, 214, 227, 239, 62, 92, 109, 117, 210, 218, 231, 144, 5, 8, 132, 166, 206, 176] rfl w h)
set_option maxRecDepth 100000 in
theorem xk_cc3 : ∀ w ∈ xt_cq3.map xt_cw, w ∈ lw_tbl := fun w h => xk_s3 w (xk_of (big := tables_1_3) [40, 200, 2, 15, 23, 33, 37, 49, 57, 65, 69, 192, 213, 217, 221, 225, 229, 233, 237, 209, 196, 205, 73, 80, 91] rfl w h)
set_option maxRecDepth 100000 in
theorem xk_cc4 : ∀ w ∈ xt_cq4.map xt_cw, w ∈ lw_tbl := fun w h => xk_s3 w (xk_of (big := tables_1_3) [102, 106, 84, 76, 87, 94, 7, 11, 19, 28, 44, 53, 61, 180, 183, 187, 124, 111, 115, 128, 119, 157, 134, 131, 139] rfl w h)
set_option maxRecDepth 100000 in
theorem xk_cc5 : ∀ w ∈ xt_cq5.map xt_cw, w ∈ lw_tbl := fun w h => xk_s3 w (xk_of (big := tables_1_3) [168, 154, 142, 148, 165, 177, 151, 162] rfl w h)
set_option maxRecDepth 100000 in
theorem xk_cc6 : ∀ w ∈ xt_cq6.map xt_cw, w ∈ lw_tbl := fun w h => xk_s4 w (xk_of (big := tables_1_4) [133, 151, 155, 159, 108, 189, 197, 100, 104, 112, 120, 83, 48, 69, 92, 129, 147, 177, 61, 5, 26, 31, 37, 41, 12] rfl w h)
set_option maxRecDepth 100000 in
theorem xk_cc7 : ∀ w ∈ xt_cq7.map xt_cw, w ∈ lw_tbl := fun w h => xk_s4 w (xk_of (big := tables_1_4) [16, 1, 21, 53, 57, 65, 79, 88, 96, 116, 125, 142, 138, 164, 169, 173, 181, 193, 185, 202, 213, 217, 209, 239, 72] rfl w h)
set_option maxRecDepth 100000 in
theorem xk_cc8 : ∀ w ∈ xt_cq8.map xt_cw, w ∈ lw_tbl := fun w h => xk_s4 w (xk_of (big := tables_1_4) [206, 229, 220, 225] rfl w h)
set_option maxRecDepth 100000 in
theorem xk_cc9 : ∀ w ∈ xt_cq9.map xt_cw, w ∈ lw_tbl := fun w h => xk_s5 w (xk_of (big := tables_1_5) [222, 157, 83, 59, 63, 230, 111, 149, 78, 74, 117, 114, 140, 102, 143, 95, 56, 227, 108, 135, 155, 233, 2, 86, 69] rfl w h)
set_option maxRecDepth 100000 in
theorem xk_cc10 : ∀ w ∈ xt_cq10.map xt_cw, w ∈ lw_tbl := fun w h => xk_s5 w (xk_of (big := tables_1_5) [203, 196, 199, 217, 236, 124, 66, 89, 127, 239, 92, 8, 5, 167, 161, 164, 98] rfl w h)
set_option maxRecDepth 100000 in
theorem xk_cc11 : ∀ w ∈ xt_cq11.map xt_cw, w ∈ lw_tbl := fun w h => xk_s6 w (xk_of (big := tables_1_6) [32, 61, 40, 78, 45, 49, 53, 57, 65, 69, 9, 91, 111, 87, 119, 130, 149, 14, 28, 36, 74, 161, 21, 156, 2] rfl w h)
set_option maxRecDepth 100000 in
theorem xk_cc12 : ∀ w ∈ xt_cq12.map xt_cw, w ∈ lw_tbl := fun w h => xk_s6 w (xk_of (big := tables_1_6) [18, 5, 152] rfl w h)
set_option maxRecDepth 100000 in
theorem xk_cc13 : ∀ w ∈ xt_cq13.map xt_cw, w ∈ lw_tbl := fun w h => xk_s7 w (xk_of (big := tables_1_7) [65, 74, 77, 80, 101, 105, 154, 88, 125, 69, 84, 93, 109, 97, 113, 117, 129, 134, 121, 138, 142, 150, 146, 162, 158] rfl w h)
set_option maxRecDepth 100000 in
theorem xk_cc14 : ∀ w ∈ xt_cq14.map xt_cw, w ∈ lw_tbl := fun w h => xk_s7 w (xk_of (big := tables_1_7) [166, 170, 174, 178, 194, 197, 202, 208, 190, 211, 186, 215, 235, 231, 219, 239, 227, 223, 182] rfl w h)
set_option maxRecDepth 100000 in
theorem xk_cc15 : ∀ w ∈ xt_cq15.map xt_cw, w ∈ lw_tbl := fun w h => xk_s8 w (xk_of (big := tables_1_8) [33, 10, 18, 7, 14, 3, 22, 26, 30, 37, 45, 41, 53, 57, 49, 66, 61, 70, 78, 74, 82, 86, 106, 120, 98] rfl w h)
set_option maxRecDepth 100000 in
theorem xk_cc16 : ∀ w ∈ xt_cq16.map xt_cw, w ∈ lw_tbl := fun w h => xk_s8 w (xk_of (big := tables_1_8) [102, 112, 116, 94, 90, 129, 124, 141, 133, 145, 137, 154, 158, 150, 162, 166, 174, 170, 179] rfl w h)
theorem xk_ccs : ∀ w ∈ xt_CQ.flatten.map xt_cw, w ∈ lw_tbl := fun w h => by
  obtain ⟨q, hq, rfl⟩ := List.mem_map.mp h
  obtain ⟨l, hl, h2⟩ := List.mem_flatten.mp hq
  unfold xt_CQ at hl
  simp only [List.mem_cons, List.not_mem_nil, or_false] at hl
  rcases hl with rfl | rfl | rfl | rfl | rfl | rfl | rfl | rfl | rfl | rfl | rfl | rfl | rfl | rfl | rfl | rfl | rfl
  · exact xk_cc0 _ (List.mem_map.mpr ⟨q, h2, rfl⟩)
  · exact xk_cc1 _ (List.mem_map.mpr ⟨q, h2, rfl⟩)
  · exact xk_cc2 _ (List.mem_map.mpr ⟨q, h2, rfl⟩)
  · exact xk_cc3 _ (List.mem_map.mpr ⟨q, h2, rfl⟩)
  · exact xk_cc4 _ (List.mem_map.mpr ⟨q, h2, rfl⟩)
  · exact xk_cc5 _ (List.mem_map.mpr ⟨q, h2, rfl⟩)
  · exact xk_cc6 _ (List.mem_map.mpr ⟨q, h2, rfl⟩)
  · exact xk_cc7 _ (List.mem_map.mpr ⟨q, h2, rfl⟩)
  · exact xk_cc8 _ (List.mem_map.mpr ⟨q, h2, rfl⟩)
  · exact xk_cc9 _ (List.mem_map.mpr ⟨q, h2, rfl⟩)
  · exact xk_cc10 _ (List.mem_map.mpr ⟨q, h2, rfl⟩)
  · exact xk_cc11 _ (List.mem_map.mpr ⟨q, h2, rfl⟩)
  · exact xk_cc12 _ (List.mem_map.mpr ⟨q, h2, rfl⟩)
  · exact xk_cc13 _ (List.mem_map.mpr ⟨q, h2, rfl⟩)
  · exact xk_cc14 _ (List.mem_map.mpr ⟨q, h2, rfl⟩)
  · exact xk_cc15 _ (List.mem_map.mpr ⟨q, h2, rfl⟩)
  · exact xk_cc16 _ (List.mem_map.mpr ⟨q, h2, rfl⟩)
theorem xk_gcc : (xt_CQ.flatten.map xt_cw).all goodWord = true := by
  rw [List.all_map]
  exact List.all_eq_true.mpr fun _ _ => rfl
theorem xk_n : ∀ w ∈ xt_Nw, w ∈ lw_tbl := by
  unfold xt_Nw
  simp only [List.forall_mem_cons]
  exact ⟨xk_s1 _ (List.mem_of_getElem? (i := 51) (by decide +kernel)), xk_s2 _ (List.mem_of_getElem? (i := 150) (by decide +kernel)), xk_s2 _ (List.mem_of_getElem? (i := 151) (by decide +kernel)), xk_s2 _ (List.mem_of_getElem? (i := 155) (by decide +kernel)), xk_s1 _ (List.mem_of_getElem? (i := 85) (by decide +kernel)), xk_s1 _ (List.mem_of_getElem? (i := 57) (by decide +kernel)), xk_s2 _ (List.mem_of_getElem? (i := 137) (by decide +kernel)), xk_s1 _ (List.mem_of_getElem? (i := 52) (by decide +kernel)), xk_s3 _ (List.mem_of_getElem? (i := 24) (by decide +kernel)), xk_s3 _ (List.mem_of_getElem? (i := 34) (by decide +kernel)), xk_s4 _ (List.mem_of_getElem? (i := 130) (by decide +kernel)), xk_s4 _ (List.mem_of_getElem? (i := 148) (by decide +kernel)), xk_s1 _ (List.mem_of_getElem? (i := 95) (by decide +kernel)), xk_s1 _ (List.mem_of_getElem? (i := 181) (by decide +kernel)), xk_s1 _ (List.mem_of_getElem? (i := 173) (by decide +kernel)), xk_s1 _ (List.mem_of_getElem? (i := 177) (by decide +kernel)), xk_s3 _ (List.mem_of_getElem? (i := 197) (by decide +kernel)), xk_s3 _ (List.mem_of_getElem? (i := 70) (by decide +kernel)), xk_s3 _ (List.mem_of_getElem? (i := 201) (by decide +kernel)), xk_s4 _ (List.mem_of_getElem? (i := 45) (by decide +kernel)), xk_s4 _ (List.mem_of_getElem? (i := 8) (by decide +kernel)), xk_s4 _ (List.mem_of_getElem? (i := 32) (by decide +kernel)), xk_s4 _ (List.mem_of_getElem? (i := 43) (by decide +kernel)), xk_s4 _ (List.mem_of_getElem? (i := 44) (by decide +kernel)), xk_s4 _ (List.mem_of_getElem? (i := 42) (by decide +kernel)), xk_s4 _ (List.mem_of_getElem? (i := 17) (by decide +kernel)), xk_s1 _ (List.mem_of_getElem? (i := 92) (by decide +kernel)), xk_s1 _ (List.mem_of_getElem? (i := 53) (by decide +kernel)), xk_s4 _ (List.mem_of_getElem? (i := 22) (by decide +kernel)), xk_s1 _ (List.mem_of_getElem? (i := 175) (by decide +kernel)), xk_s1 _ (List.mem_of_getElem? (i := 37) (by decide +kernel)), xk_s1 _ (List.mem_of_getElem? (i := 80) (by decide +kernel)), xk_s1 _ (List.mem_of_getElem? (i := 114) (by decide +kernel)), xk_s1 _ (List.mem_of_getElem? (i := 167) (by decide +kernel)), xk_s1 _ (List.mem_of_getElem? (i := 200) (by decide +kernel)), xk_s2 _ (List.mem_of_getElem? (i := 63) (by decide +kernel)), xk_s1 _ (List.mem_of_getElem? (i := 56) (by decide +kernel)), xk_s2 _ (List.mem_of_getElem? (i := 67) (by decide +kernel)), xk_s2 _ (List.mem_of_getElem? (i := 71) (by decide +kernel)), xk_s2 _ (List.mem_of_getElem? (i := 85) (by decide +kernel)), xk_s2 _ (List.mem_of_getElem? (i := 93) (by decide +kernel)), xk_s2 _ (List.mem_of_getElem? (i := 97) (by decide +kernel)), xk_s2 _ (List.mem_of_getElem? (i := 102) (by decide +kernel)), xk_s2 _ (List.mem_of_getElem? (i := 110) (by decide +kernel)), xk_s2 _ (List.mem_of_getElem? (i := 118) (by decide +kernel)), xk_s2 _ (List.mem_of_getElem? (i := 122) (by decide +kernel)), xk_s2 _ (List.mem_of_getElem? (i := 133) (by decide +kernel)), xk_s2 _ (List.mem_of_getElem? (i := 211) (by decide +kernel)), xk_s2 _ (List.mem_of_getElem? (i := 219) (by decide +kernel)), xk_s2 _ (List.mem_of_getElem? (i := 224) (by decide +kernel)), xk_s2 _ (List.mem_of_getElem? (i := 232) (by decide +kernel)), xk_s2 _ (List.mem_of_getElem? (i := 145) (by decide +kernel)), xk_s2 _ (List.mem_of_getElem? (i := 236) (by decide +kernel)), xk_s1 _ (List.mem_of_getElem? (i := 91) (by decide +kernel)), xk_s3 _ (List.mem_of_getElem? (i := 12) (by decide +kernel)), xk_s3 _ (List.mem_of_getElem? (i := 20) (by decide +kernel)), xk_s3 _ (List.mem_of_getElem? (i := 30) (by decide +kernel)), xk_s3 _ (List.mem_of_getElem? (i := 45) (by decide +kernel)), xk_s3 _ (List.mem_of_getElem? (i := 46) (by decide +kernel)), xk_s3 _ (List.mem_of_getElem? (i := 54) (by decide +kernel)), xk_s1 _ (List.mem_of_getElem? (i := 94) (by decide +kernel)), xk_s2 _ (List.mem_of_getElem? (i := 146) (by decide +kernel)), xk_s2 _ (List.mem_of_getElem? (i := 200) (by decide +kernel)), xk_s6 _ (List.mem_of_getElem? (i := 88) (by decide +kernel)), xk_s6 _ (List.mem_of_getElem? (i := 108) (by decide +kernel)), xk_s1 _ (List.mem_of_getElem? (i := 179) (by decide +kernel)), xk_s3 _ (List.mem_of_getElem? (i := 62) (by decide +kernel)), xk_s1 _ (List.mem_of_getElem? (i := 212) (by decide +kernel)), xk_s1 _ (List.mem_of_getElem? (i := 213) (by decide +kernel)), xk_s4 _ (List.mem_of_getElem? (i := 58) (by decide +kernel)), xk_s4 _ (List.mem_of_getElem? (i := 66) (by decide +kernel)), xk_s4 _ (List.mem_of_getElem? (i := 80) (by decide +kernel)), xk_s4 _ (List.mem_of_getElem? (i := 89) (by decide +kernel)), xk_s1 _ (List.mem_of_getElem? (i := 131) (by decide +kernel)), xk_s4 _ (List.mem_of_getElem? (i := 97) (by decide +kernel)), xk_s4 _ (List.mem_of_getElem? (i := 117) (by decide +kernel)), xk_s4 _ (List.mem_of_getElem? (i := 126) (by decide +kernel)), xk_s4 _ (List.mem_of_getElem? (i := 144) (by decide +kernel)), xk_s4 _ (List.mem_of_getElem? (i := 160) (by decide +kernel)), xk_s1 _ (List.mem_of_getElem? (i := 54) (by decide +kernel)), xk_s4 _ (List.mem_of_getElem? (i := 165) (by decide +kernel)), xk_s4 _ (List.mem_of_getElem? (i := 174) (by decide +kernel)), xk_s4 _ (List.mem_of_getElem? (i := 186) (by decide +kernel)), xk_s4 _ (List.mem_of_getElem? (i := 194) (by decide +kernel)), xk_s5 _ (List.mem_of_getElem? (i := 219) (by decide +kernel)), xk_s6 _ (List.mem_of_getElem? (i := 29) (by decide +kernel)), xk_s6 _ (List.mem_of_getElem? (i := 37) (by decide +kernel)), xk_s6 _ (List.mem_of_getElem? (i := 75) (by decide +kernel)), fun _ h => absurd h List.not_mem_nil⟩
theorem xk_gn : xt_Nw.all xx_isN = true := by decide +kernel
theorem xk_gx : xt_wx.all goodWord = true := by decide +kernel
theorem xk_T : ∀ w ∈ xt_T, w ∈ lw_tbl ∨ w ∈ xt_wx := fun w hw => by
  obtain ⟨l, hl, h⟩ := List.mem_flatten.mp hw
  unfold xt_W at hl
  simp only [List.mem_cons, List.not_mem_nil, or_false] at hl
  rcases hl with rfl | rfl | rfl | rfl | rfl | rfl | rfl | rfl | rfl | rfl | rfl | rfl | rfl | rfl | rfl | rfl | rfl | rfl | rfl | rfl | rfl | rfl | rfl | rfl | rfl | rfl | rfl | rfl | rfl | rfl | rfl | rfl | rfl
  · exact Or.inl (xk_w0 w h)
  · exact Or.inl (xk_w1 w h)
  · exact Or.inl (xk_w2 w h)
  · exact Or.inl (xk_w3 w h)
  · exact Or.inl (xk_w4 w h)
  · exact Or.inl (xk_w5 w h)
  · exact Or.inl (xk_w6 w h)
  · exact Or.inl (xk_w7 w h)
  · exact Or.inl (xk_w8 w h)
  · exact Or.inl (xk_w9 w h)
  · exact Or.inl (xk_w10 w h)
  · exact Or.inl (xk_w11 w h)
  · exact Or.inl (xk_w12 w h)
  · exact Or.inl (xk_w13 w h)
  · exact Or.inl (xk_w14 w h)
  · exact Or.inl (xk_w15 w h)
  · exact Or.inl (xk_w16 w h)
  · exact Or.inl (xk_w17 w h)
  · exact Or.inl (xk_w18 w h)
  · exact Or.inl (xk_w19 w h)
  · exact Or.inl (xk_w20 w h)
  · exact Or.inl (xk_w21 w h)
  · exact Or.inl (xk_uJ0 w h)
  · exact Or.inl (xk_uJ4 w h)
  · exact Or.inl (xk_uX0 w h)
  · exact Or.inl (xk_uX1 w h)
  · exact Or.inl (xk_uX2 w h)
  · exact Or.inl (xk_uX3 w h)
  · exact Or.inl (xk_uX4 w h)
  · exact Or.inl (xk_uX5 w h)
  · exact Or.inl (xk_uX6 w h)
  · exact Or.inl (xk_ccs w h)
  · exact Or.inr h
theorem xk_G : ∀ w ∈ xt_T, goodWord w = true := fun w hw => by
  obtain ⟨l, hl, h⟩ := List.mem_flatten.mp hw
  unfold xt_W at hl
  simp only [List.mem_cons, List.not_mem_nil, or_false] at hl
  rcases hl with rfl | rfl | rfl | rfl | rfl | rfl | rfl | rfl | rfl | rfl | rfl | rfl | rfl | rfl | rfl | rfl | rfl | rfl | rfl | rfl | rfl | rfl | rfl | rfl | rfl | rfl | rfl | rfl | rfl | rfl | rfl | rfl | rfl
  · exact List.all_eq_true.mp xk_g0 w h
  · exact List.all_eq_true.mp xk_g1 w h
  · exact List.all_eq_true.mp xk_g2 w h
  · exact List.all_eq_true.mp xk_g3 w h
  · exact List.all_eq_true.mp xk_g4 w h
  · exact List.all_eq_true.mp xk_g5 w h
  · exact List.all_eq_true.mp xk_g6 w h
  · exact List.all_eq_true.mp xk_g7 w h
  · exact List.all_eq_true.mp xk_g8 w h
  · exact List.all_eq_true.mp xk_g9 w h
  · exact List.all_eq_true.mp xk_g10 w h
  · exact List.all_eq_true.mp xk_g11 w h
  · exact List.all_eq_true.mp xk_g12 w h
  · exact List.all_eq_true.mp xk_g13 w h
  · exact List.all_eq_true.mp xk_g14 w h
  · exact List.all_eq_true.mp xk_g15 w h
  · exact List.all_eq_true.mp xk_g16 w h
  · exact List.all_eq_true.mp xk_g17 w h
  · exact List.all_eq_true.mp xk_g18 w h
  · exact List.all_eq_true.mp xk_g19 w h
  · exact List.all_eq_true.mp xk_g20 w h
  · exact List.all_eq_true.mp xk_g21 w h
  · exact List.all_eq_true.mp xk_guJ0 w h
  · exact List.all_eq_true.mp xk_guJ4 w h
  · exact List.all_eq_true.mp xk_guX0 w h
  · exact List.all_eq_true.mp xk_guX1 w h
  · exact List.all_eq_true.mp xk_guX2 w h
  · exact List.all_eq_true.mp xk_guX3 w h
  · exact List.all_eq_true.mp xk_guX4 w h
  · exact List.all_eq_true.mp xk_guX5 w h
  · exact List.all_eq_true.mp xk_guX6 w h
  · exact List.all_eq_true.mp xk_gcc w h
  · exact List.all_eq_true.mp xk_gx w h
