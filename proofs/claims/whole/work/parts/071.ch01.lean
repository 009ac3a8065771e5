set_option maxRecDepth 20000 in
theorem wsL_ch1 : ∀ w ∈ wsL_law0_r1, w ∈ lw_tbl := fun w h => (goodIn_p wsL_law0_r1 [42, 45] rfl (by decide +kernel) w h).1
set_option maxRecDepth 20000 in
theorem wsL_ch2 : ∀ w ∈ wsL_law0_r2, w ∈ lw_tbl := fun w h => (goodIn_p wsL_law0_r2 [50, 66] rfl (by decide +kernel) w h).1
set_option maxRecDepth 20000 in
theorem wsL_ch3 : ∀ w ∈ wsL_law0_r3, w ∈ lw_tbl := fun w h => (goodIn_p wsL_law0_r3 [70, 108, 508] rfl (by decide +kernel) w h).1
