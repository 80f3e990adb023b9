set_option maxRecDepth 20000 in
theorem lwr_26 : ∀ w ∈ wsL_law_r26, w ∈ lw_tbl := by decide +kernel
