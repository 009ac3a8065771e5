set_option maxRecDepth 20000 in
theorem wsL_ch16 : ∀ w ∈ wsL_law0_r16, w ∈ lw_tbl := fun w h => (goodIn_p wsL_law0_r16 [450, 650, 459] rfl (by decide +kernel) w h).1
set_option maxRecDepth 20000 in
theorem wsL_ch17 : ∀ w ∈ wsL_law0_r17, w ∈ lw_tbl := fun w h => (goodIn_p wsL_law0_r17 [479, 483, 487, 654, 658] rfl (by decide +kernel) w h).1
set_option maxRecDepth 20000 in
theorem wsL_ch18 : ∀ w ∈ wsL_law0_r18, w ∈ lw_tbl := fun w h => (goodIn_p wsL_law0_r18 [495, 662, 503, 666] rfl (by decide +kernel) w h).1
