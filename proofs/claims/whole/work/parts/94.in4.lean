set_option maxRecDepth 100000 in
theorem inr_31 : ∀ w ∈ wsL_law_r31, w ∈ lw_tbl := by decide +kernel
set_option maxRecDepth 100000 in
theorem inr_32 : ∀ w ∈ wsL_law_r32, w ∈ lw_tbl := by decide +kernel
set_option maxRecDepth 100000 in
theorem inr_33 : ∀ w ∈ wsL_law_r33, w ∈ lw_tbl := by decide +kernel
set_option maxRecDepth 100000 in
theorem inr_34 : ∀ w ∈ wsL_law_r34, w ∈ lw_tbl := by decide +kernel
set_option maxRecDepth 100000 in
theorem inr_35 : ∀ w ∈ wsL_law_r35, w ∈ lw_tbl := by decide +kernel
set_option maxRecDepth 100000 in
theorem inr_36 : ∀ w ∈ wsL_law_r36, w ∈ lw_tbl := by decide +kernel
set_option maxRecDepth 100000 in
theorem inr_37 : ∀ w ∈ wsL_law_r37, w ∈ lw_tbl := by decide +kernel
set_option maxRecDepth 100000 in
theorem inX7 : ∀ w ∈ wsX70, w ∈ lw_tbl := by decide +kernel
set_option maxRecDepth 100000 in
theorem inX8 : ∀ w ∈ wsX80, w ∈ lw_tbl := by decide +kernel
set_option maxRecDepth 100000 in
theorem inJx4a65c : ∀ w ∈ wsJx4a65c0, w ∈ lw_tbl := by decide +kernel
set_option maxRecDepth 100000 in
theorem inX2 : ∀ w ∈ wsX20, w ∈ lw_tbl := by decide +kernel
set_option maxRecDepth 100000 in
theorem inX1 : ∀ w ∈ wsX10, w ∈ lw_tbl := by decide +kernel
set_option maxRecDepth 100000 in
theorem inX4 : ∀ w ∈ wsX40, w ∈ lw_tbl := by decide +kernel
set_option maxRecDepth 100000 in
theorem inX6 : ∀ w ∈ wsX60, w ∈ lw_tbl := by decide +kernel
set_option maxRecDepth 100000 in
theorem inX5 : ∀ w ∈ wsX50, w ∈ lw_tbl := by decide +kernel
set_option maxRecDepth 100000 in
theorem inX3 : ∀ w ∈ wsX30, w ∈ lw_tbl := by decide +kernel
set_option maxRecDepth 100000 in
theorem inX0 : ∀ w ∈ wsX00, w ∈ lw_tbl := by decide +kernel
theorem in_ma {l1 l2 T : List Cond} (h1 : ∀ w ∈ l1, w ∈ T) (h2 : ∀ w ∈ l2, w ∈ T) : ∀ w ∈ l1 ++ l2, w ∈ T := fun w h => (List.mem_append.mp h).elim (h1 w) (h2 w)
theorem wsL_law_in : ∀ w ∈ wsL_law, w ∈ lw_tbl := in_ma (in_ma (in_ma (in_ma (in_ma (in_ma (in_ma (in_ma (in_ma (in_ma (in_ma (in_ma inr_1 (in_ma inr_2 (in_ma inr_3 (in_ma inr_4 (in_ma inr_5 (in_ma inr_6 (in_ma inr_7 (in_ma inr_8 (in_ma inr_9 (in_ma inr_10 (in_ma inr_11 (in_ma inr_12 (in_ma inr_13 (in_ma inr_14 (in_ma inr_15 (in_ma inr_16 (in_ma inr_17 (in_ma inr_18 (in_ma inr_19 (in_ma inr_20 (in_ma inr_21 (in_ma inr_22 (in_ma inr_23 (in_ma inr_24 (in_ma inr_25 (in_ma inr_26 (in_ma inr_27 (in_ma inr_28 (in_ma inr_29 (in_ma inr_30 (in_ma inr_31 (in_ma inr_32 (in_ma inr_33 (in_ma inr_34 (in_ma inr_35 (in_ma inr_36 inr_37)))))))))))))))))))))))))))))))))))) inX7) inX8) inJx4a65c) inX2) inX1) inX4) inX6) inX5) inX3) inX0) (fun _ h => absurd h List.not_mem_nil)
