set_option maxRecDepth 20000 in
theorem wsL_ch4 : ∀ w ∈ wsL_law0_r4, w ∈ lw_tbl := fun w h => (goodIn_p wsL_law0_r4 [155, 229] rfl (by decide +kernel) w h).1
set_option maxRecDepth 20000 in
theorem wsL_ch5 : ∀ w ∈ wsL_law0_r5, w ∈ lw_tbl := fun w h => (goodIn_p wsL_law0_r5 [233, 237, 576, 579, 583, 572] rfl (by decide +kernel) w h).1
set_option maxRecDepth 20000 in
theorem wsL_ch6 : ∀ w ∈ wsL_law0_r6, w ∈ lw_tbl := fun w h => (goodIn_p wsL_law0_r6 [245, 587, 270] rfl (by decide +kernel) w h).1
