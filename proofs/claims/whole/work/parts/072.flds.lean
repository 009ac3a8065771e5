theorem wsL_fX3 : ∀ w ∈ wsX30, w ∈ lw_tbl := by decide +kernel
theorem wsL_fX4 : ∀ w ∈ wsX40, w ∈ lw_tbl := by decide +kernel
theorem wsL_fX1 : ∀ w ∈ wsX10, w ∈ lw_tbl := by decide +kernel
theorem wsL_fX2 : ∀ w ∈ wsX20, w ∈ lw_tbl := by decide +kernel
theorem wsL_fX0 : ∀ w ∈ wsX00, w ∈ lw_tbl := by decide +kernel
