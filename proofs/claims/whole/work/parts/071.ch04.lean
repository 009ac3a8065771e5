set_option maxRecDepth 20000 in
theorem wsL_ch10 : ∀ w ∈ wsL_law0_r10, w ∈ lw_tbl := fun w h => (goodIn_p wsL_law0_r10 [366, 370, 374, 378] rfl (by decide +kernel) w h).1
set_option maxRecDepth 20000 in
theorem wsL_ch11 : ∀ w ∈ wsL_law0_r11, w ∈ lw_tbl := fun w h => (goodIn_p wsL_law0_r11 [383, 591, 594, 598, 602] rfl (by decide +kernel) w h).1
set_option maxRecDepth 20000 in
theorem wsL_ch12 : ∀ w ∈ wsL_law0_r12, w ∈ lw_tbl := fun w h => (goodIn_p wsL_law0_r12 [606, 609, 614, 618, 622, 626] rfl (by decide +kernel) w h).1
