set_option maxRecDepth 20000 in
theorem wsL_law_x2 : ∀ w ∈ (vx_atS RX3 121 "java/lang/IndexOutOfBoundsException" ["java/lang/RuntimeException", "java/lang/Exception"]).filter goodWord, w ∈ lw_tbl := by decide +kernel
