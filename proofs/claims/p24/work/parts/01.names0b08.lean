set_option maxRecDepth 100000 in
theorem wsL_lawX4_in : ∀ w ∈ wsX40, w ∈ lw_tbl := by decide +kernel
