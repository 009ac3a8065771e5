set_option maxRecDepth 20000 in
theorem wsL_law_x3 : ∀ w ∈ vz_at.filter goodWord, w ∈ lw_tbl := by decide +kernel
