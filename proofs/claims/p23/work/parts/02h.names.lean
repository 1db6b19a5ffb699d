set_option maxRecDepth 20000 in
theorem wsL_law_q13 : ∀ w ∈ wsL_law0_r13, w ∈ lw_tbl := fun w h => (goodIn_r (big := lw_tbl) wsL_law0_r13 [186, 187, 188, 39, 204, 205, 206, 207, 215, 216, 217, 218, 219, 243, 244, 245, 246, 247, 248, 263, 265, 267, 249, 251] (by decide +kernel) (by decide +kernel) w h).1
set_option maxRecDepth 20000 in
theorem wsL_law_q14 : ∀ w ∈ wsL_law0_r14, w ∈ lw_tbl := fun w h => (goodIn_r (big := lw_tbl) wsL_law0_r14 [253, 290, 291, 292, 293, 294, 296, 1, 297, 345, 346, 347, 348, 368, 370, 5, 371, 377, 378, 379, 380, 381, 382, 383] (by decide +kernel) (by decide +kernel) w h).1
set_option maxRecDepth 20000 in
theorem wsL_law_q15 : ∀ w ∈ wsL_law0_r15, w ∈ lw_tbl := fun w h => (goodIn_r (big := lw_tbl) wsL_law0_r15 [384, 385, 386, 387, 268, 388, 389, 390, 391, 392, 394, 7, 395, 396, 397, 398, 399, 409, 410, 411, 412, 413, 414, 415] (by decide +kernel) (by decide +kernel) w h).1
