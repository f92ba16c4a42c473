set_option maxRecDepth 100000 in
theorem lin_r11 : ∀ w ∈ wsL_law0_r11, w ∈ lw_tbl := fun w h => (goodIn_p wsL_law0_r11 [363, 504, 507, 511, 335, 339] (by decide +kernel) (by decide +kernel) w h).1
set_option maxRecDepth 100000 in
theorem lin_r12 : ∀ w ∈ wsL_law0_r12, w ∈ lw_tbl := fun w h => (goodIn_p wsL_law0_r12 [367, 371, 375, 379, 384] (by decide +kernel) (by decide +kernel) w h).1
set_option maxRecDepth 100000 in
theorem lin_r13 : ∀ w ∈ wsL_law0_r13, w ∈ lw_tbl := fun w h => (goodIn_p wsL_law0_r13 [387, 394, 515, 519, 524] (by decide +kernel) (by decide +kernel) w h).1
set_option maxRecDepth 100000 in
theorem lin_r14 : ∀ w ∈ wsL_law0_r14, w ∈ lw_tbl := fun w h => (goodIn_p wsL_law0_r14 [529, 534, 538, 409, 542] (by decide +kernel) (by decide +kernel) w h).1
set_option maxRecDepth 100000 in
theorem lin_r15 : ∀ w ∈ wsL_law0_r15, w ∈ lw_tbl := fun w h => (goodIn_p wsL_law0_r15 [546, 568, 589, 594, 598] (by decide +kernel) (by decide +kernel) w h).1
