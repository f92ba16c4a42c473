set_option maxRecDepth 100000 in
theorem lin_r22 : ∀ w ∈ wsL_law0_r22, w ∈ lw_tbl := fun w h => (goodIn_p wsL_law0_r22 [602, 844, 609, 848] (by decide +kernel) (by decide +kernel) w h).1
set_option maxRecDepth 100000 in
theorem lin_r23 : ∀ w ∈ wsL_law0_r23, w ∈ lw_tbl := fun w h => (goodIn_p wsL_law0_r23 [616, 852, 623, 856] (by decide +kernel) (by decide +kernel) w h).1
set_option maxRecDepth 100000 in
theorem lin_r24 : ∀ w ∈ wsL_law0_r24, w ∈ lw_tbl := fun w h => (goodIn_p wsL_law0_r24 [630, 860, 252, 333, 337] (by decide +kernel) (by decide +kernel) w h).1
set_option maxRecDepth 100000 in
theorem lin_r25 : ∀ w ∈ wsL_law0_r25, w ∈ lw_tbl := fun w h => (goodIn_p wsL_law0_r25 [864, 637, 868, 645] (by decide +kernel) (by decide +kernel) w h).1
set_option maxRecDepth 100000 in
theorem lin_r26 : ∀ w ∈ wsL_law0_r26, w ∈ lw_tbl := fun w h => (goodIn_p wsL_law0_r26 [872, 653, 657, 876, 880] (by decide +kernel) (by decide +kernel) w h).1
set_option maxRecDepth 100000 in
theorem lin_r27 : ∀ w ∈ wsL_law0_r27, w ∈ lw_tbl := fun w h => (goodIn_p wsL_law0_r27 [664, 884] (by decide +kernel) (by decide +kernel) w h).1
set_option maxRecDepth 100000 in
theorem lin_X4 : ∀ w ∈ wsX40, w ∈ lw_tbl := fun w h => (goodIn_p wsX40 [] (by decide +kernel) (by decide +kernel) w h).1
