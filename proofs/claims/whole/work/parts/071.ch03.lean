set_option maxRecDepth 20000 in
theorem wsL_ch7 : ∀ w ∈ wsL_law0_r7, w ∈ lw_tbl := fun w h => (goodIn_p wsL_law0_r7 [274, 294, 298, 302, 305, 308] rfl (by decide +kernel) w h).1
set_option maxRecDepth 20000 in
theorem wsL_ch8 : ∀ w ∈ wsL_law0_r8, w ∈ lw_tbl := fun w h => (goodIn_p wsL_law0_r8 [311, 316, 319, 323, 327, 331] rfl (by decide +kernel) w h).1
set_option maxRecDepth 20000 in
theorem wsL_ch9 : ∀ w ∈ wsL_law0_r9, w ∈ lw_tbl := fun w h => (goodIn_p wsL_law0_r9 [335, 339, 343, 346, 350] rfl (by decide +kernel) w h).1
