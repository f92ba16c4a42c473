set_option maxRecDepth 100000 in
theorem lin_r6 : ∀ w ∈ wsL_law0_r6, w ∈ lw_tbl := fun w h => (goodIn_p wsL_law0_r6 [229, 233, 236, 445, 449] (by decide +kernel) (by decide +kernel) w h).1
set_option maxRecDepth 100000 in
theorem lin_r7 : ∀ w ∈ wsL_law0_r7, w ∈ lw_tbl := fun w h => (goodIn_p wsL_law0_r7 [249, 321, 324, 327, 331] (by decide +kernel) (by decide +kernel) w h).1
set_option maxRecDepth 100000 in
theorem lin_r8 : ∀ w ∈ wsL_law0_r8, w ∈ lw_tbl := fun w h => (goodIn_p wsL_law0_r8 [404, 469, 437, 473, 359, 478, 482] (by decide +kernel) (by decide +kernel) w h).1
set_option maxRecDepth 100000 in
theorem lin_r9 : ∀ w ∈ wsL_law0_r9, w ∈ lw_tbl := fun w h => (goodIn_p wsL_law0_r9 [486, 492, 496, 356, 500] (by decide +kernel) (by decide +kernel) w h).1
set_option maxRecDepth 100000 in
theorem lin_r10 : ∀ w ∈ wsL_law0_r10, w ∈ lw_tbl := fun w h => (goodIn_p wsL_law0_r10 [401, 343, 348, 352] (by decide +kernel) (by decide +kernel) w h).1
