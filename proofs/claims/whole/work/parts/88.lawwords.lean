set_option maxRecDepth 20000 in
theorem inX7 : ∀ w ∈ wsX70, w ∈ lw_tbl := by decide +kernel
set_option maxRecDepth 20000 in
theorem inX8 : ∀ w ∈ wsX80, w ∈ lw_tbl := by decide +kernel
set_option maxRecDepth 20000 in
theorem inX1 : ∀ w ∈ wsX10, w ∈ lw_tbl := by decide +kernel
set_option maxRecDepth 20000 in
theorem inX4 : ∀ w ∈ wsX40, w ∈ lw_tbl := by decide +kernel
set_option maxRecDepth 20000 in
theorem inX2 : ∀ w ∈ wsX20, w ∈ lw_tbl := by decide +kernel
set_option maxRecDepth 20000 in
theorem inX5 : ∀ w ∈ wsX50, w ∈ lw_tbl := by decide +kernel
set_option maxRecDepth 20000 in
theorem inX3 : ∀ w ∈ wsX30, w ∈ lw_tbl := by decide +kernel
set_option maxRecDepth 20000 in
theorem inX6 : ∀ w ∈ wsX60, w ∈ lw_tbl := by decide +kernel
set_option maxRecDepth 20000 in
theorem inX0 : ∀ w ∈ wsX00, w ∈ lw_tbl := by decide +kernel
theorem wsL_law_in : ∀ w ∈ wsL_law, w ∈ lw_tbl := List.forall_mem_append.mpr ⟨List.forall_mem_append.mpr ⟨List.forall_mem_append.mpr ⟨List.forall_mem_append.mpr ⟨List.forall_mem_append.mpr ⟨List.forall_mem_append.mpr ⟨List.forall_mem_append.mpr ⟨List.forall_mem_append.mpr ⟨List.forall_mem_append.mpr ⟨List.forall_mem_append.mpr ⟨List.forall_mem_append.mpr ⟨lwr_1, List.forall_mem_append.mpr ⟨lwr_2, List.forall_mem_append.mpr ⟨lwr_3, List.forall_mem_append.mpr ⟨lwr_4, List.forall_mem_append.mpr ⟨lwr_5, List.forall_mem_append.mpr ⟨lwr_6, List.forall_mem_append.mpr ⟨lwr_7, List.forall_mem_append.mpr ⟨lwr_8, List.forall_mem_append.mpr ⟨lwr_9, List.forall_mem_append.mpr ⟨lwr_10, List.forall_mem_append.mpr ⟨lwr_11, List.forall_mem_append.mpr ⟨lwr_12, List.forall_mem_append.mpr ⟨lwr_13, List.forall_mem_append.mpr ⟨lwr_14, List.forall_mem_append.mpr ⟨lwr_15, List.forall_mem_append.mpr ⟨lwr_16, List.forall_mem_append.mpr ⟨lwr_17, List.forall_mem_append.mpr ⟨lwr_18, List.forall_mem_append.mpr ⟨lwr_19, List.forall_mem_append.mpr ⟨lwr_20, List.forall_mem_append.mpr ⟨lwr_21, List.forall_mem_append.mpr ⟨lwr_22, List.forall_mem_append.mpr ⟨lwr_23, List.forall_mem_append.mpr ⟨lwr_24, List.forall_mem_append.mpr ⟨lwr_25, lwr_26⟩⟩⟩⟩⟩⟩⟩⟩⟩⟩⟩⟩⟩⟩⟩⟩⟩⟩⟩⟩⟩⟩⟩⟩⟩, inX7⟩, inX8⟩, inX1⟩, inX4⟩, inX2⟩, inX5⟩, inX3⟩, inX6⟩, inX0⟩, fun _ h => absurd h List.not_mem_nil⟩
