theorem wsL_law_in0 : ∀ w ∈ wsL_law0, w ∈ lw_tbl := by
  intro w h
  unfold wsL_law0 at h
  simp only [List.mem_append, List.not_mem_nil, or_false] at h
  rcases h with (((((h | h | h | h | h | h | h | h | h | h | h | h | h | h | h | h | h | h) | h) | h) | h) | h) | h
  · exact wsL_ch1 w h
  · exact wsL_ch2 w h
  · exact wsL_ch3 w h
  · exact wsL_ch4 w h
  · exact wsL_ch5 w h
  · exact wsL_ch6 w h
  · exact wsL_ch7 w h
  · exact wsL_ch8 w h
  · exact wsL_ch9 w h
  · exact wsL_ch10 w h
  · exact wsL_ch11 w h
  · exact wsL_ch12 w h
  · exact wsL_ch13 w h
  · exact wsL_ch14 w h
  · exact wsL_ch15 w h
  · exact wsL_ch16 w h
  · exact wsL_ch17 w h
  · exact wsL_ch18 w h
  · exact wsL_fX3 w h
  · exact wsL_fX4 w h
  · exact wsL_fX1 w h
  · exact wsL_fX2 w h
  · exact wsL_fX0 w h
theorem wsL_law_in : ∀ w ∈ wsL_law, w ∈ lw_tbl := fun w h => (List.mem_append.mp h).elim (fun h => (List.mem_append.mp h).elim (fun h => (List.mem_append.mp h).elim (fun h => (List.mem_append.mp h).elim (fun h => wsL_law_in0 w h) (fun h => wsL_law_x0 w h)) (fun h => wsL_law_x1 w h)) (fun h => wsL_law_x2 w h)) (fun h => wsL_law_x3 w h)
theorem inlX0 : ∀ w ∈ wsX00, w ∈ wsL_law := fun _ h => List.mem_append_left _ (List.mem_append_left _ (List.mem_append_left _ (List.mem_append_left _ (List.mem_append_left _ (List.mem_append_right _ h)))))
theorem inX0 : ∀ w ∈ wsX00, w ∈ lw_tbl := fun w h => wsL_law_in w (inlX0 w h)
theorem inlX1 : ∀ w ∈ wsX10, w ∈ wsL_law := fun _ h => List.mem_append_left _ (List.mem_append_left _ (List.mem_append_left _ (List.mem_append_left _ (List.mem_append_left _ (List.mem_append_left _ (List.mem_append_left _ (List.mem_append_right _ h)))))))
theorem inX1 : ∀ w ∈ wsX10, w ∈ lw_tbl := fun w h => wsL_law_in w (inlX1 w h)
theorem inlX2 : ∀ w ∈ wsX20, w ∈ wsL_law := fun _ h => List.mem_append_left _ (List.mem_append_left _ (List.mem_append_left _ (List.mem_append_left _ (List.mem_append_left _ (List.mem_append_left _ (List.mem_append_right _ h))))))
theorem inX2 : ∀ w ∈ wsX20, w ∈ lw_tbl := fun w h => wsL_law_in w (inlX2 w h)
theorem inlX3 : ∀ w ∈ wsX30, w ∈ wsL_law := fun _ h => List.mem_append_left _ (List.mem_append_left _ (List.mem_append_left _ (List.mem_append_left _ (List.mem_append_left _ (List.mem_append_left _ (List.mem_append_left _ (List.mem_append_left _ (List.mem_append_left _ (List.mem_append_right _ h)))))))))
theorem inX3 : ∀ w ∈ wsX30, w ∈ lw_tbl := fun w h => wsL_law_in w (inlX3 w h)
theorem inlX4 : ∀ w ∈ wsX40, w ∈ wsL_law := fun _ h => List.mem_append_left _ (List.mem_append_left _ (List.mem_append_left _ (List.mem_append_left _ (List.mem_append_left _ (List.mem_append_left _ (List.mem_append_left _ (List.mem_append_left _ (List.mem_append_right _ h))))))))
theorem inX4 : ∀ w ∈ wsX40, w ∈ lw_tbl := fun w h => wsL_law_in w (inlX4 w h)
set_option maxRecDepth 20000 in
theorem ggL_begin_X3_begin : GoodIn wsL_begin wsX3_begin := goodIn_ca (goodIn_r _ [6, 7, 8, 9, 10, 11, 12, 13, 14, 15, 16, 17, 18, 19, 20, 21, 22, 23, 24, 25, 26, 27, 28, 29, 30, 31, 32, 33, 34, 35, 36, 37, 38, 39, 40, 41, 42, 43, 44, 45, 46, 47, 48, 49, 50, 51, 52, 53, 54, 55, 56, 57, 58, 59, 60, 61, 62, 63] (by decide +kernel) (by decide +kernel)) (goodIn_sub (fun _ h => List.mem_cons_of_mem _ (List.mem_append_right _ h)) (by decide +kernel))
set_option maxRecDepth 20000 in
theorem gL_begin_X3_begin : GoodIn wsL_begin (wsV RL 7 RX3 yX3_begin wsX3_begin) := goodIn_app (goodIn_of _ (by decide +kernel)) ggL_begin_X3_begin
set_option maxRecDepth 20000 in
theorem ggL_put_X3_put : GoodIn wsL_put wsX3_put := goodIn_ca (goodIn_ca (goodIn_r _ [7, 8, 9, 10, 11, 12, 13, 14, 15, 16, 17, 18, 19, 20, 21] (by decide +kernel) (by decide +kernel)) (goodIn_sub (fun _ h => List.mem_cons_of_mem _ (List.mem_append_left _ (List.mem_append_right _ h))) (by decide +kernel))) (goodIn_sub (fun _ h => List.mem_cons_of_mem _ (List.mem_append_right _ h)) (by decide +kernel))
set_option maxRecDepth 20000 in
theorem gL_put_X3_put : GoodIn wsL_put (wsV RL 15 RX3 yX3_put wsX3_put) := goodIn_app (goodIn_of _ (by decide +kernel)) ggL_put_X3_put
set_option maxRecDepth 20000 in
theorem ggL_store_X3_store : GoodIn wsL_store wsX3_store := goodIn_ca (goodIn_ca (goodIn_r _ [7, 8, 9, 10, 11, 12, 6, 13, 14, 15, 16, 17, 18, 19, 20, 21, 22, 23, 24, 25, 26, 27, 28, 29, 30, 31, 32, 33, 34, 35, 36, 37, 38, 39, 40, 41, 42, 43, 44, 45, 46, 47, 48, 49, 50, 51, 52, 53, 54, 55, 56, 57, 58, 59, 60, 61, 62, 63, 64, 65, 66, 67, 68, 69, 70, 71, 72, 73, 74, 75, 76, 77, 78, 79, 80, 81, 82, 83, 84, 85, 86, 87, 88, 89, 90, 91, 92, 93, 94, 95, 96, 97, 98, 99, 100, 101, 102, 103, 104, 105, 106, 107, 108, 109, 110, 111, 112, 113, 114, 115, 116, 117, 118, 119, 120, 121, 122, 123, 124, 125, 126, 127, 128, 129, 130, 131, 132, 133, 134, 135, 136, 137, 138, 139, 140, 141, 142, 143, 144, 145, 146, 147, 148, 149, 150, 151, 152, 153, 154, 155, 156, 157, 158, 159, 160, 161] (by decide +kernel) (by decide +kernel)) (goodIn_sub (fun _ h => List.mem_cons_of_mem _ (List.mem_append_left _ (List.mem_append_right _ h))) (by decide +kernel))) (goodIn_sub (fun _ h => List.mem_cons_of_mem _ (List.mem_append_right _ h)) (by decide +kernel))
set_option maxRecDepth 20000 in
theorem gL_store_X3_store : GoodIn wsL_store (wsV RL 21 RX3 yX3_store wsX3_store) := goodIn_app (goodIn_of _ (by decide +kernel)) ggL_store_X3_store
set_option maxRecDepth 20000 in
theorem ggL_edit_X3_edit : GoodIn wsL_edit wsX3_edit := goodIn_ca (goodIn_ca (goodIn_ca (goodIn_r _ [8, 9, 10, 11, 12, 13, 14, 15, 16, 17, 18, 19, 20, 21, 22, 7, 23, 24, 25, 26, 27, 28, 29, 30, 31, 32, 33, 34, 35, 36, 37, 38, 39, 40, 41, 42, 43, 44, 45, 46, 47, 48, 49, 50, 51, 52, 53, 54, 55, 56, 57, 58, 59, 60, 61, 62, 63, 64, 65, 66, 67, 68, 69, 70, 71, 72, 73, 74, 75, 76, 77, 78, 79, 80, 81, 82, 83, 84, 85, 86, 87, 88, 89, 90, 91, 92, 93, 94, 95, 96, 97, 98, 99, 100, 101, 102, 103, 104, 105, 106, 107, 108, 109, 110, 111, 112, 113, 114, 115, 116, 117, 118, 119, 120, 121, 122, 123, 124, 125, 126, 127, 128, 129, 130, 131, 132, 133, 134, 135, 136, 137, 138, 139, 140, 141, 142, 143, 144, 145, 146, 147, 148, 149, 150, 151, 152, 153, 154, 155, 156, 157, 158, 159, 160, 161, 162, 163, 164, 165, 166, 167, 168, 169, 170, 171, 172, 173, 174, 175, 176, 177, 178] (by decide +kernel) (by decide +kernel)) (goodIn_sub (fun _ h => List.mem_cons_of_mem _ (List.mem_append_left _ (List.mem_append_left _ (List.mem_append_right _ h)))) (by decide +kernel))) (goodIn_sub (fun _ h => List.mem_cons_of_mem _ (List.mem_append_left _ (List.mem_append_right _ h))) (by decide +kernel))) (goodIn_sub (fun _ h => List.mem_cons_of_mem _ (List.mem_append_right _ h)) (by decide +kernel))
set_option maxRecDepth 20000 in
theorem gL_edit_X3_edit : GoodIn wsL_edit (wsV RL 27 RX3 yX3_edit wsX3_edit) := goodIn_app (goodIn_of _ (by decide +kernel)) ggL_edit_X3_edit
set_option maxRecDepth 20000 in
theorem ggL_copy_X3_copy : GoodIn wsL_copy wsX3_copy := goodIn_ca (goodIn_r _ [6, 7, 8, 9, 10, 5, 11, 12, 13, 14, 15, 16, 17, 18, 19, 20, 21, 22, 23, 24, 25, 26, 27, 28, 29, 30, 31, 32, 33, 34, 35, 36, 37, 38, 39, 40, 41, 42, 43, 44, 45, 46, 47, 48, 49, 50, 51, 52, 53, 54, 55, 56, 57, 58, 59, 60, 61, 62, 63, 64, 65, 66, 67, 68, 69, 70, 71, 72, 73, 74, 75, 76, 77, 78, 79, 80, 81, 82, 83, 84] (by decide +kernel) (by decide +kernel)) (goodIn_sub (fun _ h => List.mem_cons_of_mem _ (List.mem_append_right _ h)) (by decide +kernel))
set_option maxRecDepth 20000 in
theorem gL_copy_X3_copy : GoodIn wsL_copy (wsV RL 31 RX3 yX3_copy wsX3_copy) := goodIn_app (goodIn_of _ (by decide +kernel)) ggL_copy_X3_copy
set_option maxRecDepth 20000 in
theorem ggL_size_X3_size : GoodIn wsL_size wsX3_size := goodIn_ca (goodIn_r _ [6, 7, 8, 9, 5, 10, 11, 12, 13, 14, 15, 16, 17, 18, 19, 20, 21, 22, 23, 24] (by decide +kernel) (by decide +kernel)) (goodIn_sub (fun _ h => List.mem_cons_of_mem _ (List.mem_append_right _ h)) (by decide +kernel))
set_option maxRecDepth 20000 in
theorem gL_size_X3_size : GoodIn wsL_size (wsV RL 35 RX3 yX3_size wsX3_size) := goodIn_app (goodIn_of _ (by decide +kernel)) ggL_size_X3_size
set_option maxRecDepth 20000 in
theorem ggL_get_X3_get : GoodIn wsL_get wsX3_get := goodIn_ca (goodIn_r _ [6, 7, 8, 9, 10, 11, 12, 5, 13, 14, 15, 16, 17, 18, 19, 20, 21, 22, 23, 24, 25, 26, 27, 28, 29, 30, 31, 32, 33, 34, 35, 36, 37, 38, 39, 40, 41, 42, 43, 44, 45, 46, 47, 48, 49, 50, 51] (by decide +kernel) (by decide +kernel)) (goodIn_sub (fun _ h => List.mem_cons_of_mem _ (List.mem_append_right _ h)) (by decide +kernel))
set_option maxRecDepth 20000 in
theorem gL_get_X3_get : GoodIn wsL_get (wsV RL 38 RX3 yX3_get wsX3_get) := goodIn_app (goodIn_of _ (by decide +kernel)) ggL_get_X3_get
set_option maxRecDepth 20000 in
theorem ggL_parts_X3_parts : GoodIn wsL_parts wsX3_parts := goodIn_ca (goodIn_r _ [6, 7, 8, 9, 5, 10, 11, 12, 13, 14, 15, 16, 17, 18, 19, 20, 21, 22, 23, 24] (by decide +kernel) (by decide +kernel)) (goodIn_sub (fun _ h => List.mem_cons_of_mem _ (List.mem_append_right _ h)) (by decide +kernel))
set_option maxRecDepth 20000 in
theorem gL_parts_X3_parts : GoodIn wsL_parts (wsV RL 41 RX3 yX3_parts wsX3_parts) := goodIn_app (goodIn_of _ (by decide +kernel)) ggL_parts_X3_parts
set_option maxRecDepth 20000 in
theorem ggL_part_X3_part : GoodIn wsL_part wsX3_part := goodIn_ca (goodIn_r _ [6, 7, 8, 9, 10, 11, 5, 12, 13, 14, 15, 16, 17, 18, 19, 20, 21, 22, 23, 24] (by decide +kernel) (by decide +kernel)) (goodIn_sub (fun _ h => List.mem_cons_of_mem _ (List.mem_append_right _ h)) (by decide +kernel))
set_option maxRecDepth 20000 in
theorem gL_part_X3_part : GoodIn wsL_part (wsV RL 44 RX3 yX3_part wsX3_part) := goodIn_app (goodIn_of _ (by decide +kernel)) ggL_part_X3_part
set_option maxRecDepth 20000 in
theorem ggL_about_X3_about : GoodIn wsL_about wsX3_about := goodIn_ca (goodIn_ca (goodIn_r _ [7, 8, 9, 10, 11, 12, 13, 14, 15, 16, 17, 18, 19, 20, 21, 22, 23, 24, 25, 26, 27, 28, 29, 30, 31, 6, 32, 33, 34, 35, 36, 37, 38, 39, 40, 41, 42, 43, 44, 45, 46, 47, 48, 49, 50, 51, 52, 53, 54, 55, 56, 57, 58, 59, 60] (by decide +kernel) (by decide +kernel)) (goodIn_sub (fun _ h => List.mem_cons_of_mem _ (List.mem_append_left _ (List.mem_append_right _ h))) (by decide +kernel))) (goodIn_sub (fun _ h => List.mem_cons_of_mem _ (List.mem_append_right _ h)) (by decide +kernel))
set_option maxRecDepth 20000 in
theorem gL_about_X3_about : GoodIn wsL_about (wsV RL 47 RX3 yX3_about wsX3_about) := goodIn_app (goodIn_of _ (by decide +kernel)) ggL_about_X3_about
set_option maxRecDepth 20000 in
theorem ggL_common_X3_common : GoodIn wsL_common wsX3_common := goodIn_ca (goodIn_r _ [6, 7, 8, 9, 10, 11, 5, 12, 13, 14, 15, 16, 17, 18, 19, 20, 21, 22, 23, 24, 25, 26, 27, 28, 29, 30, 31, 32, 33, 34, 35, 36, 37, 38, 39, 40, 41, 42, 43, 44, 45, 46, 47, 48, 49, 50, 51] (by decide +kernel) (by decide +kernel)) (goodIn_sub (fun _ h => List.mem_cons_of_mem _ (List.mem_append_right _ h)) (by decide +kernel))
set_option maxRecDepth 20000 in
theorem gL_common_X3_common : GoodIn wsL_common (wsV RL 52 RX3 yX3_common wsX3_common) := goodIn_app (goodIn_of _ (by decide +kernel)) ggL_common_X3_common
set_option maxRecDepth 20000 in
theorem ggL_all_X3_all : GoodIn wsL_all wsX3_all := goodIn_ca (goodIn_r _ [6, 7, 8, 9, 10, 11, 12, 13, 14, 15, 16, 17, 18, 19, 20, 21, 22, 23, 24, 25, 26, 27] (by decide +kernel) (by decide +kernel)) (goodIn_sub (fun _ h => List.mem_cons_of_mem _ (List.mem_append_right _ h)) (by decide +kernel))
set_option maxRecDepth 20000 in
theorem gL_all_X3_all : GoodIn wsL_all (wsV RL 55 RX3 yX3_all wsX3_all) := goodIn_app (goodIn_of _ (by decide +kernel)) ggL_all_X3_all
set_option maxRecDepth 20000 in
theorem ggL_law_X3_init : GoodIn wsL_law wsX3_init := goodIn_r _ [9, 10, 11, 12, 13, 14, 15, 16, 17, 18, 19, 20, 21, 22, 23, 24, 25, 26, 27, 28, 29, 30, 31, 32, 33, 34, 35, 36, 37, 38, 39, 40, 41, 42, 43, 44, 45, 46, 47, 48, 49, 50, 51, 52, 53, 54, 55, 56, 57, 58, 59, 60, 452, 453, 454, 425, 426, 427, 428, 429, 430, 431, 432, 455, 456, 457, 458, 459, 460, 461, 462, 463, 464, 465, 466] (by decide +kernel) (by decide +kernel)
set_option maxRecDepth 20000 in
theorem gL_law_X3_init : GoodIn wsL_law (wsX3_init) := ggL_law_X3_init
set_option maxRecDepth 20000 in
theorem ggL_law_X4_init : GoodIn wsL_law wsX4_init := goodIn_r _ [63, 64, 11, 12, 65, 66, 67, 27, 68, 69, 70, 71, 72, 73, 74, 75, 76, 77, 78, 79, 80, 433, 434, 435, 436, 437, 438, 439, 440, 441, 442, 443, 444, 445, 446, 447, 448, 449, 450, 451] (by decide +kernel) (by decide +kernel)
set_option maxRecDepth 20000 in
theorem gL_law_X4_init : GoodIn wsL_law (wsX4_init) := ggL_law_X4_init
set_option maxRecDepth 20000 in
theorem ggL_law_L_begin : GoodIn wsL_law wsL_begin := goodIn_ca (goodIn_r _ [84, 85, 86, 87, 88, 2, 89, 90, 91, 16, 20, 22, 92, 93, 94, 15, 95, 35, 36, 37, 96, 97, 98, 19, 99, 42, 46, 48, 49, 50, 51, 52, 53, 54, 100, 101, 102, 31, 103, 59, 60, 425, 426, 427, 428, 429, 430, 431, 432, 452, 453, 454, 455, 456, 457, 458, 459, 460, 461, 462, 463, 464, 465, 466] (by decide +kernel) (by decide +kernel)) (goodIn_sub (fun _ h => List.mem_append_left _ (List.mem_append_left _ (List.mem_append_left _ (List.mem_append_right _ h)))) (by decide +kernel))
set_option maxRecDepth 20000 in
theorem gL_law_L_begin : GoodIn wsL_law (va_wsS RL 62 yL_begin wsL_begin) := goodIn_app (goodIn_of _ (by decide +kernel)) ggL_law_L_begin
set_option maxRecDepth 20000 in
theorem ggL_law_X4_begin : GoodIn wsL_law wsX4_begin := goodIn_r _ [107, 65, 66, 67, 74, 76, 78, 108, 109, 5, 110, 111, 112, 113, 114, 115, 433, 434, 435, 436, 437, 438, 439, 440, 441, 442, 443, 444, 445, 446, 447, 448, 449, 450, 451] (by decide +kernel) (by decide +kernel)
set_option maxRecDepth 20000 in
theorem gL_law_X4_begin : GoodIn wsL_law (wsV RL 67 RX4 yX4_begin wsX4_begin) := goodIn_app (goodIn_of _ (by decide +kernel)) ggL_law_X4_begin
set_option maxRecDepth 20000 in
theorem ggL_law_X4_thrown : GoodIn wsL_law wsX4_thrown := goodIn_r _ [119, 115, 433, 434, 435, 436, 437, 438, 439, 440, 441, 442, 443, 444, 445, 446, 447, 448, 449, 450, 451] (by decide +kernel) (by decide +kernel)
set_option maxRecDepth 20000 in
theorem gL_law_X4_thrown : GoodIn wsL_law (wsV RL 68 RX4 yX4_thrown wsX4_thrown) := goodIn_app (goodIn_of _ (by decide +kernel)) ggL_law_X4_thrown
set_option maxRecDepth 20000 in
theorem ggL_law_L_put : GoodIn wsL_law wsL_put := goodIn_ca (goodIn_ca (goodIn_r _ [122, 85, 123, 124, 125, 126, 2, 127, 90, 91, 128, 129, 25, 24, 425, 426, 427, 428, 429, 430, 431, 432] (by decide +kernel) (by decide +kernel)) (goodIn_sub (fun _ h => List.mem_append_left _ (List.mem_append_left _ (List.mem_append_left _ (List.mem_append_right _ h)))) (by decide +kernel))) (goodIn_sub (fun _ h => List.mem_append_left _ (List.mem_append_left _ (List.mem_append_right _ h))) (by decide +kernel))
set_option maxRecDepth 20000 in
theorem gL_law_L_put : GoodIn wsL_law (va_wsS RL 72 yL_put wsL_put) := goodIn_app (goodIn_of _ (by decide +kernel)) ggL_law_L_put
set_option maxRecDepth 20000 in
theorem ggL_law_X4_put : GoodIn wsL_law wsX4_put := goodIn_r _ [133, 134, 68, 108, 109, 5, 110, 111, 112, 113, 114, 115, 433, 434, 435, 436, 437, 438, 439, 440, 441, 442, 443, 444, 445, 446, 447, 448, 449, 450, 451] (by decide +kernel) (by decide +kernel)
set_option maxRecDepth 20000 in
theorem gL_law_X4_put : GoodIn wsL_law (wsV RL 75 RX4 yX4_put wsX4_put) := goodIn_app (goodIn_of _ (by decide +kernel)) ggL_law_X4_put
set_option maxRecDepth 20000 in
theorem ggL_law_L_store : GoodIn wsL_law wsL_store := goodIn_ca (goodIn_ca (goodIn_r _ [137, 138, 123, 139, 140, 141, 2, 142, 24, 25, 143, 144, 145, 146, 147, 148, 22, 149, 150, 151, 152, 128, 129, 20, 28, 153, 154, 155, 156, 16, 157, 158, 159, 15, 160, 37, 161, 162, 163, 164, 36, 35, 165, 166, 167, 168, 169, 170, 171, 172, 173, 174, 19, 175, 176, 177, 178, 179, 180, 181, 182, 46, 44, 43, 45, 183, 184, 185, 186, 42, 187, 188, 189, 190, 47, 191, 192, 193, 194, 195, 196, 197, 198, 49, 50, 199, 200, 201, 202, 48, 203, 204, 205, 206, 207, 208, 209, 210, 211, 212, 53, 213, 214, 215, 216, 217, 218, 219, 23, 220, 221, 222, 223, 224, 225, 226, 227, 228, 229, 230, 231, 232, 233, 234, 235, 236, 237, 238, 239, 240, 31, 241, 58, 242, 243, 27, 244, 59, 60, 425, 426, 427, 428, 429, 430, 431, 432, 455, 456, 457, 458, 459, 460, 461, 462, 463, 464, 465, 466, 452, 453, 454] (by decide +kernel) (by decide +kernel)) (goodIn_sub (fun _ h => List.mem_append_left _ (List.mem_append_right _ h)) (by decide +kernel))) (goodIn_sub (fun _ h => List.mem_append_left _ (List.mem_append_left _ (List.mem_append_right _ h))) (by decide +kernel))
set_option maxRecDepth 20000 in
theorem gL_law_L_store : GoodIn wsL_law (va_wsS RL 76 yL_store wsL_store) := goodIn_app (goodIn_of _ (by decide +kernel)) ggL_law_L_store
set_option maxRecDepth 20000 in
theorem ggL_law_X4_store : GoodIn wsL_law wsX4_store := goodIn_r _ [248, 134, 249, 69, 68, 250, 251, 5, 252, 108, 109, 110, 111, 112, 113, 114, 115, 253, 254, 255, 256, 73, 257, 71, 70, 258, 259, 260, 261, 67, 66, 65, 262, 263, 264, 265, 266, 267, 268, 269, 270, 271, 272, 273, 274, 275, 276, 277, 78, 79, 80, 278, 279, 280, 281, 282, 283, 284, 285, 76, 77, 74, 75, 433, 434, 435, 436, 437, 438, 439, 440, 441, 442, 443, 444, 445, 446, 447, 448, 449, 450, 451] (by decide +kernel) (by decide +kernel)
set_option maxRecDepth 20000 in
theorem gL_law_X4_store : GoodIn wsL_law (wsV RL 79 RX4 yX4_store wsX4_store) := goodIn_app (goodIn_of _ (by decide +kernel)) ggL_law_X4_store
set_option maxRecDepth 20000 in
theorem ggL_law_L_edit : GoodIn wsL_law wsL_edit := goodIn_ca (goodIn_ca (goodIn_ca (goodIn_r _ [288, 138, 85, 123, 289, 290, 291, 2, 292, 90, 91, 128, 129, 25, 26, 293, 196, 197, 198, 24, 143, 144, 145, 146, 147, 148, 22, 294, 295, 296, 297, 20, 298, 299, 300, 19, 301, 47, 195, 302, 303, 304, 305, 43, 183, 184, 185, 186, 42, 149, 150, 151, 152, 28, 153, 154, 155, 156, 16, 157, 158, 159, 15, 160, 37, 161, 162, 163, 164, 36, 35, 165, 166, 167, 168, 169, 170, 171, 172, 173, 174, 175, 176, 177, 178, 179, 180, 181, 182, 46, 44, 45, 187, 188, 189, 190, 191, 192, 193, 194, 49, 50, 199, 200, 201, 202, 48, 203, 204, 205, 206, 207, 208, 209, 210, 211, 212, 53, 213, 214, 215, 216, 217, 218, 219, 23, 220, 221, 222, 223, 224, 225, 226, 227, 228, 229, 230, 231, 232, 233, 234, 235, 236, 237, 238, 239, 240, 31, 241, 58, 242, 243, 27, 244, 59, 60, 464, 465, 466, 425, 426, 427, 428, 429, 430, 431, 432, 455, 456, 457, 458, 459, 460, 461, 462, 463, 452, 453, 454] (by decide +kernel) (by decide +kernel)) (goodIn_sub (fun _ h => List.mem_append_left _ (List.mem_append_left _ (List.mem_append_left _ (List.mem_append_right _ h)))) (by decide +kernel))) (goodIn_sub (fun _ h => List.mem_append_left _ (List.mem_append_left _ (List.mem_append_right _ h))) (by decide +kernel))) (goodIn_sub (fun _ h => List.mem_append_left _ (List.mem_append_right _ h)) (by decide +kernel))
set_option maxRecDepth 20000 in
theorem gL_law_L_edit : GoodIn wsL_law (va_wsS RL 80 yL_edit wsL_edit) := goodIn_app (goodIn_of _ (by decide +kernel)) ggL_law_L_edit
set_option maxRecDepth 20000 in
theorem ggL_law_X4_edit : GoodIn wsL_law wsX4_edit := goodIn_r _ [309, 74, 134, 249, 69, 75, 68, 250, 251, 5, 252, 108, 109, 110, 111, 112, 113, 114, 115, 253, 254, 255, 256, 73, 257, 71, 70, 258, 259, 260, 261, 67, 66, 65, 262, 263, 264, 265, 266, 267, 268, 269, 270, 271, 272, 273, 274, 275, 276, 277, 78, 79, 80, 278, 279, 280, 281, 282, 283, 284, 285, 76, 77, 433, 434, 435, 436, 437, 438, 439, 440, 441, 442, 443, 444, 445, 446, 447, 448, 449, 450, 451] (by decide +kernel) (by decide +kernel)
set_option maxRecDepth 20000 in
theorem gL_law_X4_edit : GoodIn wsL_law (wsV RL 83 RX4 yX4_edit wsX4_edit) := goodIn_app (goodIn_of _ (by decide +kernel)) ggL_law_X4_edit
set_option maxRecDepth 20000 in
theorem ggL_law_L_copy : GoodIn wsL_law wsL_copy := goodIn_ca (goodIn_r _ [312, 138, 313, 314, 315, 2, 316, 20, 143, 144, 145, 146, 147, 148, 22, 317, 223, 224, 19, 225, 42, 183, 184, 185, 186, 226, 227, 228, 229, 230, 231, 232, 233, 48, 210, 162, 163, 164, 49, 50, 43, 234, 235, 236, 237, 44, 46, 45, 238, 239, 240, 31, 241, 58, 242, 208, 209, 243, 27, 244, 196, 197, 198, 59, 60, 464, 465, 466, 425, 426, 427, 428, 429, 430, 431, 432, 455, 456, 457, 458, 459, 460, 461, 462, 463] (by decide +kernel) (by decide +kernel)) (goodIn_sub (fun _ h => List.mem_append_left _ (List.mem_append_right _ h)) (by decide +kernel))
set_option maxRecDepth 20000 in
theorem gL_law_L_copy : GoodIn wsL_law (va_wsS RL 84 yL_copy wsL_copy) := goodIn_app (goodIn_of _ (by decide +kernel)) ggL_law_L_copy
set_option maxRecDepth 20000 in
theorem ggL_law_X4_copy : GoodIn wsL_law wsX4_copy := goodIn_r _ [321, 74, 249, 76, 257, 69, 75, 71, 77, 250, 251, 5, 252, 108, 109, 110, 111, 112, 113, 114, 115, 282, 283, 284, 285, 78, 433, 434, 435, 436, 437, 438, 439, 440, 441, 442, 443, 444, 445, 446, 447, 448, 449, 450, 451] (by decide +kernel) (by decide +kernel)
set_option maxRecDepth 20000 in
theorem gL_law_X4_copy : GoodIn wsL_law (wsV RL 87 RX4 yX4_copy wsX4_copy) := goodIn_app (goodIn_of _ (by decide +kernel)) ggL_law_X4_copy
set_option maxRecDepth 20000 in
theorem ggL_law_L_size : GoodIn wsL_law wsL_size := goodIn_ca (goodIn_r _ [324, 138, 325, 326, 327, 2, 328, 143, 144, 145, 146, 147, 148, 22, 464, 465, 466, 425, 426, 427, 428, 429, 430, 431, 432] (by decide +kernel) (by decide +kernel)) (goodIn_sub (fun _ h => List.mem_append_left _ (List.mem_append_right _ h)) (by decide +kernel))
set_option maxRecDepth 20000 in
theorem gL_law_L_size : GoodIn wsL_law (va_wsS RL 88 yL_size wsL_size) := goodIn_app (goodIn_of _ (by decide +kernel)) ggL_law_L_size
set_option maxRecDepth 20000 in
theorem ggL_law_X4_size : GoodIn wsL_law wsX4_size := goodIn_r _ [332, 74, 250, 251, 5, 252, 108, 109, 110, 111, 112, 113, 114, 115, 433, 434, 435, 436, 437, 438, 439, 440, 441, 442, 443, 444, 445, 446, 447, 448, 449, 450, 451] (by decide +kernel) (by decide +kernel)
set_option maxRecDepth 20000 in
theorem gL_law_X4_size : GoodIn wsL_law (wsV RL 90 RX4 yX4_size wsX4_size) := goodIn_app (goodIn_of _ (by decide +kernel)) ggL_law_X4_size
set_option maxRecDepth 20000 in
theorem ggL_law_L_get : GoodIn wsL_law wsL_get := goodIn_ca (goodIn_r _ [335, 138, 336, 337, 338, 2, 339, 147, 148, 20, 143, 144, 145, 146, 22, 340, 303, 304, 19, 305, 43, 183, 184, 185, 186, 42, 341, 342, 343, 344, 47, 302, 464, 465, 466, 425, 426, 427, 428, 429, 430, 431, 432, 455, 456, 457, 458, 459, 460, 461, 462, 463] (by decide +kernel) (by decide +kernel)) (goodIn_sub (fun _ h => List.mem_append_left _ (List.mem_append_right _ h)) (by decide +kernel))
set_option maxRecDepth 20000 in
theorem gL_law_L_get : GoodIn wsL_law (va_wsS RL 91 yL_get wsL_get) := goodIn_app (goodIn_of _ (by decide +kernel)) ggL_law_L_get
set_option maxRecDepth 20000 in
theorem ggL_law_X4_get : GoodIn wsL_law wsX4_get := goodIn_r _ [348, 74, 75, 250, 251, 5, 252, 108, 109, 110, 111, 112, 113, 114, 115, 433, 434, 435, 436, 437, 438, 439, 440, 441, 442, 443, 444, 445, 446, 447, 448, 449, 450, 451] (by decide +kernel) (by decide +kernel)
set_option maxRecDepth 20000 in
theorem gL_law_X4_get : GoodIn wsL_law (wsV RL 93 RX4 yX4_get wsX4_get) := goodIn_app (goodIn_of _ (by decide +kernel)) ggL_law_X4_get
set_option maxRecDepth 20000 in
theorem ggL_law_L_parts : GoodIn wsL_law wsL_parts := goodIn_ca (goodIn_r _ [351, 138, 352, 353, 354, 2, 355, 143, 144, 145, 146, 147, 148, 22, 464, 465, 466, 425, 426, 427, 428, 429, 430, 431, 432] (by decide +kernel) (by decide +kernel)) (goodIn_sub (fun _ h => List.mem_append_left _ (List.mem_append_right _ h)) (by decide +kernel))
set_option maxRecDepth 20000 in
theorem gL_law_L_parts : GoodIn wsL_law (va_wsS RL 94 yL_parts wsL_parts) := goodIn_app (goodIn_of _ (by decide +kernel)) ggL_law_L_parts
set_option maxRecDepth 20000 in
theorem ggL_law_X4_parts : GoodIn wsL_law wsX4_parts := goodIn_r _ [359, 76, 250, 251, 5, 252, 108, 109, 110, 111, 112, 113, 114, 115, 433, 434, 435, 436, 437, 438, 439, 440, 441, 442, 443, 444, 445, 446, 447, 448, 449, 450, 451] (by decide +kernel) (by decide +kernel)
set_option maxRecDepth 20000 in
theorem gL_law_X4_parts : GoodIn wsL_law (wsV RL 96 RX4 yX4_parts wsX4_parts) := goodIn_app (goodIn_of _ (by decide +kernel)) ggL_law_X4_parts
set_option maxRecDepth 20000 in
theorem ggL_law_L_part : GoodIn wsL_law wsL_part := goodIn_ca (goodIn_r _ [362, 138, 363, 364, 365, 2, 366, 147, 148, 143, 144, 145, 146, 22, 464, 465, 466, 425, 426, 427, 428, 429, 430, 431, 432] (by decide +kernel) (by decide +kernel)) (goodIn_sub (fun _ h => List.mem_append_left _ (List.mem_append_right _ h)) (by decide +kernel))
set_option maxRecDepth 20000 in
theorem gL_law_L_part : GoodIn wsL_law (va_wsS RL 97 yL_part wsL_part) := goodIn_app (goodIn_of _ (by decide +kernel)) ggL_law_L_part
set_option maxRecDepth 20000 in
theorem ggL_law_X4_part : GoodIn wsL_law wsX4_part := goodIn_r _ [370, 76, 77, 250, 251, 5, 252, 108, 109, 110, 111, 112, 113, 114, 115, 433, 434, 435, 436, 437, 438, 439, 440, 441, 442, 443, 444, 445, 446, 447, 448, 449, 450, 451] (by decide +kernel) (by decide +kernel)
set_option maxRecDepth 20000 in
theorem gL_law_X4_part : GoodIn wsL_law (wsV RL 99 RX4 yX4_part wsX4_part) := goodIn_app (goodIn_of _ (by decide +kernel)) ggL_law_X4_part
set_option maxRecDepth 20000 in
theorem ggL_law_L_about : GoodIn wsL_law wsL_about := goodIn_ca (goodIn_ca (goodIn_r _ [373, 374, 85, 375, 376, 377, 2, 378, 379, 380, 90, 91, 20, 381, 184, 185, 19, 186, 42, 340, 303, 304, 305, 43, 183, 382, 383, 384, 385, 386, 387, 388, 389, 22, 390, 391, 392, 31, 393, 59, 58, 425, 426, 427, 428, 429, 430, 431, 432, 455, 456, 457, 458, 459, 460, 461, 462, 463, 464, 465, 466] (by decide +kernel) (by decide +kernel)) (goodIn_sub (fun _ h => List.mem_append_right _ h) (by decide +kernel))) (goodIn_sub (fun _ h => List.mem_append_left _ (List.mem_append_left _ (List.mem_append_left _ (List.mem_append_right _ h)))) (by decide +kernel))
set_option maxRecDepth 20000 in
theorem gL_law_L_about : GoodIn wsL_law (va_wsS RL 100 yL_about wsL_about) := goodIn_app (goodIn_of _ (by decide +kernel)) ggL_law_L_about
set_option maxRecDepth 20000 in
theorem ggL_law_X4_about : GoodIn wsL_law wsX4_about := goodIn_r _ [397, 78, 79, 108, 109, 5, 110, 111, 112, 113, 114, 115, 398, 399, 400, 401, 76, 77, 433, 434, 435, 436, 437, 438, 439, 440, 441, 442, 443, 444, 445, 446, 447, 448, 449, 450, 451] (by decide +kernel) (by decide +kernel)
set_option maxRecDepth 20000 in
theorem gL_law_X4_about : GoodIn wsL_law (wsV RL 102 RX4 yX4_about wsX4_about) := goodIn_app (goodIn_of _ (by decide +kernel)) ggL_law_X4_about
set_option maxRecDepth 20000 in
theorem ggL_law_L_common : GoodIn wsL_law wsL_common := goodIn_ca (goodIn_r _ [404, 138, 405, 406, 407, 2, 408, 29, 20, 143, 144, 145, 146, 147, 148, 22, 409, 52, 53, 54, 381, 184, 185, 19, 186, 42, 340, 303, 304, 305, 43, 183, 425, 426, 427, 428, 429, 430, 431, 432, 464, 465, 466, 455, 456, 457, 458, 459, 460, 461, 462, 463] (by decide +kernel) (by decide +kernel)) (goodIn_sub (fun _ h => List.mem_append_left _ (List.mem_append_right _ h)) (by decide +kernel))
set_option maxRecDepth 20000 in
theorem gL_law_L_common : GoodIn wsL_law (va_wsS RL 103 yL_common wsL_common) := goodIn_app (goodIn_of _ (by decide +kernel)) ggL_law_L_common
set_option maxRecDepth 20000 in
theorem ggL_law_X4_common : GoodIn wsL_law wsX4_common := goodIn_r _ [413, 76, 77, 79, 250, 251, 5, 252, 108, 109, 110, 111, 112, 113, 114, 115, 398, 399, 400, 401, 433, 434, 435, 436, 437, 438, 439, 440, 441, 442, 443, 444, 445, 446, 447, 448, 449, 450, 451] (by decide +kernel) (by decide +kernel)
set_option maxRecDepth 20000 in
theorem gL_law_X4_common : GoodIn wsL_law (wsV RL 105 RX4 yX4_common wsX4_common) := goodIn_app (goodIn_of _ (by decide +kernel)) ggL_law_X4_common
set_option maxRecDepth 20000 in
theorem ggL_law_L_all : GoodIn wsL_law wsL_all := goodIn_ca (goodIn_r _ [416, 85, 417, 418, 419, 2, 420, 90, 91, 20, 25, 425, 426, 427, 428, 429, 430, 431, 432, 455, 456, 457, 458, 459, 460, 461, 462, 463] (by decide +kernel) (by decide +kernel)) (goodIn_sub (fun _ h => List.mem_append_left _ (List.mem_append_left _ (List.mem_append_left _ (List.mem_append_right _ h)))) (by decide +kernel))
set_option maxRecDepth 20000 in
theorem gL_law_L_all : GoodIn wsL_law (va_wsS RL 106 yL_all wsL_all) := goodIn_app (goodIn_of _ (by decide +kernel)) ggL_law_L_all
set_option maxRecDepth 20000 in
theorem ggL_law_X4_all : GoodIn wsL_law wsX4_all := goodIn_r _ [424, 78, 79, 134, 108, 109, 5, 110, 111, 112, 113, 114, 115, 433, 434, 435, 436, 437, 438, 439, 440, 441, 442, 443, 444, 445, 446, 447, 448, 449, 450, 451] (by decide +kernel) (by decide +kernel)
set_option maxRecDepth 20000 in
theorem gL_law_X4_all : GoodIn wsL_law (wsV RL 108 RX4 yX4_all wsX4_all) := goodIn_app (goodIn_of _ (by decide +kernel)) ggL_law_X4_all
