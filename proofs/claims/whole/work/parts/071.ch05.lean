set_option maxRecDepth 20000 in
theorem wsL_ch13 : ∀ w ∈ wsL_law0_r13, w ∈ lw_tbl := fun w h => (goodIn_p wsL_law0_r13 [393, 399, 403, 407, 630] rfl (by decide +kernel) w h).1
set_option maxRecDepth 20000 in
theorem wsL_ch14 : ∀ w ∈ wsL_law0_r14, w ∈ lw_tbl := fun w h => (goodIn_p wsL_law0_r14 [415, 634, 423, 638] rfl (by decide +kernel) w h).1
set_option maxRecDepth 20000 in
theorem wsL_ch15 : ∀ w ∈ wsL_law0_r15, w ∈ lw_tbl := fun w h => (goodIn_p wsL_law0_r15 [430, 436, 642, 443, 646] rfl (by decide +kernel) w h).1
