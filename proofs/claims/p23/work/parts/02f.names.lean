set_option maxRecDepth 20000 in
theorem wsL_law_q9 : ∀ w ∈ wsL_law0_r9, w ∈ lw_tbl := fun w h => (goodIn_r (big := lw_tbl) wsL_law0_r9 [717, 719, 14, 720, 721, 722, 723, 724, 208, 209, 210, 211, 212, 213, 725, 727, 15, 728, 256, 400, 401, 402, 403, 257] (by decide +kernel) (by decide +kernel) w h).1
set_option maxRecDepth 20000 in
theorem wsL_law_q10 : ∀ w ∈ wsL_law0_r10, w ∈ lw_tbl := fun w h => (goodIn_r (big := lw_tbl) wsL_law0_r10 [404, 405, 406, 407, 408, 729, 730, 731, 732, 733, 734, 736, 16, 737, 372, 374, 6, 375, 376, 738, 739, 740, 741, 224] (by decide +kernel) (by decide +kernel) w h).1
set_option maxRecDepth 20000 in
theorem wsL_law_q11 : ∀ w ∈ wsL_law0_r11, w ∈ lw_tbl := fun w h => (goodIn_r (big := lw_tbl) wsL_law0_r11 [225, 226, 227, 40, 742, 743, 744, 745, 746, 747, 748, 749, 750, 754, 755, 756, 765, 764, 757, 758, 759, 760, 761, 762] (by decide +kernel) (by decide +kernel) w h).1
