set_option maxRecDepth 20000 in
theorem wsL_law_q5 : ∀ w ∈ wsL_law0_r5, w ∈ lw_tbl := fun w h => (goodIn_r (big := lw_tbl) wsL_law0_r5 [440, 441, 442, 264, 443, 444, 445, 446, 266, 447, 448, 449, 450, 113, 114, 115, 451, 453, 9, 454, 252, 262, 455, 456] (by decide +kernel) (by decide +kernel) w h).1
set_option maxRecDepth 20000 in
theorem wsL_law_q6 : ∀ w ∈ wsL_law0_r6, w ∈ lw_tbl := fun w h => (goodIn_r (big := lw_tbl) wsL_law0_r6 [457, 458, 67, 68, 459, 460, 461, 41, 462, 259, 255, 261, 463, 465, 10, 466, 467, 468, 469, 470, 712, 342, 341, 35] (by decide +kernel) (by decide +kernel) w h).1
set_option maxRecDepth 20000 in
theorem wsL_law_q7 : ∀ w ∈ wsL_law0_r7, w ∈ lw_tbl := fun w h => (goodIn_r (big := lw_tbl) wsL_law0_r7 [471, 473, 11, 474, 298, 300, 2, 301, 302, 304, 3, 305, 343, 310, 34, 311, 344, 306, 307, 33, 308, 309, 312, 313] (by decide +kernel) (by decide +kernel) w h).1
set_option maxRecDepth 20000 in
theorem wsL_law_q8 : ∀ w ∈ wsL_law0_r8, w ∈ lw_tbl := fun w h => (goodIn_r (big := lw_tbl) wsL_law0_r8 [314, 315, 316, 317, 318, 319, 815, 320, 330, 331, 332, 333, 334, 336, 337, 338, 339, 340, 713, 715, 13, 716, 254, 250] (by decide +kernel) (by decide +kernel) w h).1
