set_option maxRecDepth 20000 in
theorem wsL_law_fX1 : ∀ w ∈ wsX10, w ∈ lw_tbl := fun w h => (goodIn_r (big := lw_tbl) wsX10 [88, 90, 92, 94, 96, 98, 100] (by decide +kernel) (by decide +kernel) w h).1
set_option maxRecDepth 20000 in
theorem wsL_law_fJx4a65c : ∀ w ∈ wsJx4a65c0, w ∈ lw_tbl := fun w h => (goodIn_r (big := lw_tbl) wsJx4a65c0 [73, 69, 71] (by decide +kernel) (by decide +kernel) w h).1
set_option maxRecDepth 20000 in
theorem wsL_law_fX0 : ∀ w ∈ wsX00, w ∈ lw_tbl := fun w h => (goodIn_r (big := lw_tbl) wsX00 [269, 271, 273, 275, 277, 279, 281, 283, 285, 287] (by decide +kernel) (by decide +kernel) w h).1
theorem wsL_law_in0 : ∀ w ∈ wsL_law0, w ∈ lw_tbl := fun w h => (List.mem_append.mp h).elim (fun h => (List.mem_append.mp h).elim (fun h => (List.mem_append.mp h).elim (fun h => (List.mem_append.mp h).elim (fun h => (List.mem_append.mp h).elim (wsL_law_q1 w) (fun h => (List.mem_append.mp h).elim (wsL_law_q2 w) (fun h => (List.mem_append.mp h).elim (wsL_law_q3 w) (fun h => (List.mem_append.mp h).elim (wsL_law_q4 w) (fun h => (List.mem_append.mp h).elim (wsL_law_q5 w) (fun h => (List.mem_append.mp h).elim (wsL_law_q6 w) (fun h => (List.mem_append.mp h).elim (wsL_law_q7 w) (fun h => (List.mem_append.mp h).elim (wsL_law_q8 w) (fun h => (List.mem_append.mp h).elim (wsL_law_q9 w) (fun h => (List.mem_append.mp h).elim (wsL_law_q10 w) (fun h => (List.mem_append.mp h).elim (wsL_law_q11 w) (fun h => (List.mem_append.mp h).elim (wsL_law_q12 w) (fun h => (List.mem_append.mp h).elim (wsL_law_q13 w) (fun h => (List.mem_append.mp h).elim (wsL_law_q14 w) (fun h => (List.mem_append.mp h).elim (wsL_law_q15 w) (wsL_law_q16 w)))))))))))))))) (wsL_law_fX1 w)) (wsL_law_fJx4a65c w)) (wsL_law_fX0 w)) (fun h => absurd h List.not_mem_nil)
theorem wsL_law_x0 : ∀ w ∈ (vx_atS RX1 157 "java/lang/IndexOutOfBoundsException" ["java/lang/RuntimeException", "java/lang/Exception"]).filter goodWord, w ∈ lw_tbl := by decide +kernel
theorem wsL_law_x1 : ∀ w ∈ (vx_atS RX1 171 "java/lang/IllegalStateException" ["java/lang/RuntimeException", "java/lang/Exception"]).filter goodWord, w ∈ lw_tbl := by decide +kernel
theorem wsL_law_x2 : ∀ w ∈ (vx_atS RX1 166 "java/lang/IllegalArgumentException" ["java/lang/RuntimeException", "java/lang/Exception"]).filter goodWord, w ∈ lw_tbl := by decide +kernel
theorem wsL_law_in : ∀ w ∈ wsL_law, w ∈ lw_tbl := fun w h => (List.mem_append.mp h).elim (fun h => (List.mem_append.mp h).elim (fun h => (List.mem_append.mp h).elim (fun h => wsL_law_in0 w h) (fun h => wsL_law_x0 w h)) (fun h => wsL_law_x1 w h)) (fun h => wsL_law_x2 w h)
theorem inlX0 : ∀ w ∈ wsX00, w ∈ wsL_law := fun _ h => List.mem_append_left _ (List.mem_append_left _ (List.mem_append_left _ (List.mem_append_left _ (List.mem_append_right _ h))))
theorem inX0 : ∀ w ∈ wsX00, w ∈ lw_tbl := fun w h => wsL_law_in w (inlX0 w h)
theorem inlX1 : ∀ w ∈ wsX10, w ∈ wsL_law := fun _ h => List.mem_append_left _ (List.mem_append_left _ (List.mem_append_left _ (List.mem_append_left _ (List.mem_append_left _ (List.mem_append_left _ (List.mem_append_right _ h))))))
theorem inX1 : ∀ w ∈ wsX10, w ∈ lw_tbl := fun w h => wsL_law_in w (inlX1 w h)
theorem inX2 : ∀ w ∈ wsX20, w ∈ lw_tbl := by decide +kernel
theorem inJx145de : ∀ w ∈ wsJx145de0, w ∈ lw_tbl := by decide +kernel
theorem inJ5 : ∀ w ∈ wsJ50, w ∈ lw_tbl := by decide +kernel
theorem inJx2cfe8 : ∀ w ∈ wsJx2cfe80, w ∈ lw_tbl := by decide +kernel
theorem inJx9f9b0 : ∀ w ∈ wsJx9f9b00, w ∈ lw_tbl := by decide +kernel
theorem inJx8e188 : ∀ w ∈ wsJx8e1880, w ∈ lw_tbl := by decide +kernel
theorem inJxb160c : ∀ w ∈ wsJxb160c0, w ∈ lw_tbl := by decide +kernel
theorem inJ6 : ∀ w ∈ wsJ60, w ∈ lw_tbl := by decide +kernel
theorem inJxab1ab : ∀ w ∈ wsJxab1ab0, w ∈ lw_tbl := by decide +kernel
theorem inJ9 : ∀ w ∈ wsJ90, w ∈ lw_tbl := by decide +kernel
theorem inJxd2413 : ∀ w ∈ wsJxd24130, w ∈ lw_tbl := by decide +kernel
theorem inJ0 : ∀ w ∈ wsJ00, w ∈ lw_tbl := by decide +kernel
theorem inJ4 : ∀ w ∈ wsJ40, w ∈ lw_tbl := by decide +kernel
theorem inJ1 : ∀ w ∈ wsJ10, w ∈ lw_tbl := by decide +kernel
theorem inJ2 : ∀ w ∈ wsJ20, w ∈ lw_tbl := by decide +kernel
theorem inJ10 : ∀ w ∈ wsJ100, w ∈ lw_tbl := by decide +kernel
theorem inJxfd54e : ∀ w ∈ wsJxfd54e0, w ∈ lw_tbl := by decide +kernel
theorem inJx3cf43 : ∀ w ∈ wsJx3cf430, w ∈ lw_tbl := by decide +kernel
theorem inJxa1e45 : ∀ w ∈ wsJxa1e450, w ∈ lw_tbl := by decide +kernel
theorem inJxc12de : ∀ w ∈ wsJxc12de0, w ∈ lw_tbl := by decide +kernel
theorem inlJx4a65c : ∀ w ∈ wsJx4a65c0, w ∈ wsL_law := fun _ h => List.mem_append_left _ (List.mem_append_left _ (List.mem_append_left _ (List.mem_append_left _ (List.mem_append_left _ (List.mem_append_right _ h)))))
theorem inJx4a65c : ∀ w ∈ wsJx4a65c0, w ∈ lw_tbl := fun w h => wsL_law_in w (inlJx4a65c w h)
theorem inJ7 : ∀ w ∈ wsJ70, w ∈ lw_tbl := by decide +kernel
theorem inJx5ef63 : ∀ w ∈ wsJx5ef630, w ∈ lw_tbl := by decide +kernel
theorem inJxbd725 : ∀ w ∈ wsJxbd7250, w ∈ lw_tbl := by decide +kernel
theorem inJ15 : ∀ w ∈ wsJ150, w ∈ lw_tbl := by decide +kernel
theorem inJxf0a74 : ∀ w ∈ wsJxf0a740, w ∈ lw_tbl := by decide +kernel
theorem inJxa66e6 : ∀ w ∈ wsJxa66e60, w ∈ lw_tbl := by decide +kernel
theorem inJ8 : ∀ w ∈ wsJ80, w ∈ lw_tbl := by decide +kernel
theorem inJ3 : ∀ w ∈ wsJ30, w ∈ lw_tbl := by decide +kernel
theorem dX0_init_0 : decode cX0_init 0 = .ok (.aload_n 0, 1) := by decide +kernel
theorem dX0_init_1 : decode cX0_init 1 = .ok (.invokespecial 3, 3) := by decide +kernel
theorem dX0_init_4 : decode cX0_init 4 = .ok (.aload_n 0, 1) := by decide +kernel
theorem dX0_init_5 : decode cX0_init 5 = .ok (.iconst 0, 1) := by decide +kernel
theorem dX0_init_6 : decode cX0_init 6 = .ok (.putfield 9, 3) := by decide +kernel
theorem dX0_init_9 : decode cX0_init 9 = .ok (.aload_n 0, 1) := by decide +kernel
theorem dX0_init_10 : decode cX0_init 10 = .ok (.iconst (-1), 1) := by decide +kernel
theorem dX0_init_11 : decode cX0_init 11 = .ok (.putfield 15, 3) := by decide +kernel
theorem dX0_init_14 : decode cX0_init 14 = .ok (.aload_n 0, 1) := by decide +kernel
theorem dX0_init_15 : decode cX0_init 15 = .ok (.iconst 0, 1) := by decide +kernel
theorem dX0_init_16 : decode cX0_init 16 = .ok (.putfield 18, 3) := by decide +kernel
theorem dX0_init_19 : decode cX0_init 19 = .ok (.aload_n 0, 1) := by decide +kernel
theorem dX0_init_20 : decode cX0_init 20 = .ok (.iconst 0, 1) := by decide +kernel
theorem dX0_init_21 : decode cX0_init 21 = .ok (.putfield 21, 3) := by decide +kernel
theorem dX0_init_24 : decode cX0_init 24 = .ok (.aload_n 0, 1) := by decide +kernel
theorem dX0_init_25 : decode cX0_init 25 = .ok (.iconst 0, 1) := by decide +kernel
theorem dX0_init_26 : decode cX0_init 26 = .ok (.putfield 24, 3) := by decide +kernel
theorem dX0_init_29 : decode cX0_init 29 = .ok (.aload_n 0, 1) := by decide +kernel
theorem dX0_init_30 : decode cX0_init 30 = .ok (.iload_n 1, 1) := by decide +kernel
theorem dX0_init_31 : decode cX0_init 31 = .ok (.putfield 27, 3) := by decide +kernel
theorem dX0_init_34 : decode cX0_init 34 = .ok (.aload_n 0, 1) := by decide +kernel
theorem dX0_init_35 : decode cX0_init 35 = .ok (.iload_n 2, 1) := by decide +kernel
theorem dX0_init_36 : decode cX0_init 36 = .ok (.putfield 30, 3) := by decide +kernel
theorem dX0_init_39 : decode cX0_init 39 = .ok (.aload_n 0, 1) := by decide +kernel
theorem dX0_init_40 : decode cX0_init 40 = .ok (.iload_n 3, 1) := by decide +kernel
theorem dX0_init_41 : decode cX0_init 41 = .ok (.putfield 33, 3) := by decide +kernel
theorem dX0_init_44 : decode cX0_init 44 = .ok (.aload_n 0, 1) := by decide +kernel
theorem dX0_init_45 : decode cX0_init 45 = .ok (.iload 4, 2) := by decide +kernel
theorem dX0_init_47 : decode cX0_init 47 = .ok (.putfield 36, 3) := by decide +kernel
theorem dX0_init_50 : decode cX0_init 50 = .ok (.aload_n 0, 1) := by decide +kernel
theorem dX0_init_51 : decode cX0_init 51 = .ok (.iload 5, 2) := by decide +kernel
theorem dX0_init_53 : decode cX0_init 53 = .ok (.putfield 39, 3) := by decide +kernel
theorem dX0_init_56 : decode cX0_init 56 = .ok (.return_, 1) := by decide +kernel
theorem dX0_isPaid_0 : decode cX0_isPaid 0 = .ok (.aload_n 0, 1) := by decide +kernel
theorem dX0_isPaid_1 : decode cX0_isPaid 1 = .ok (.getfield 9, 3) := by decide +kernel
theorem dX0_isPaid_4 : decode cX0_isPaid 4 = .ok (.iconst 3, 1) := by decide +kernel
theorem dX0_isPaid_5 : decode cX0_isPaid 5 = .ok (.if_icmp .eq 11, 3) := by decide +kernel
theorem dX0_isPaid_8 : decode cX0_isPaid 8 = .ok (.aload_n 0, 1) := by decide +kernel
theorem dX0_isPaid_9 : decode cX0_isPaid 9 = .ok (.getfield 9, 3) := by decide +kernel
theorem dX0_isPaid_12 : decode cX0_isPaid 12 = .ok (.iconst 4, 1) := by decide +kernel
theorem dX0_isPaid_13 : decode cX0_isPaid 13 = .ok (.if_icmp .ne 7, 3) := by decide +kernel
theorem dX0_isPaid_16 : decode cX0_isPaid 16 = .ok (.iconst 1, 1) := by decide +kernel
theorem dX0_isPaid_17 : decode cX0_isPaid 17 = .ok (.goto 4, 3) := by decide +kernel
theorem dX0_isPaid_20 : decode cX0_isPaid 20 = .ok (.iconst 0, 1) := by decide +kernel
theorem dX0_isPaid_21 : decode cX0_isPaid 21 = .ok (.ireturn, 1) := by decide +kernel
theorem dX0_canBeCleared_0 : decode cX0_canBeCleared 0 = .ok (.aload_n 0, 1) := by decide +kernel
theorem dX0_canBeCleared_1 : decode cX0_canBeCleared 1 = .ok (.getfield 9, 3) := by decide +kernel
theorem dX0_canBeCleared_4 : decode cX0_canBeCleared 4 = .ok (.iconst 1, 1) := by decide +kernel
theorem dX0_canBeCleared_5 : decode cX0_canBeCleared 5 = .ok (.if_icmp .ne 23, 3) := by decide +kernel
theorem dX0_canBeCleared_8 : decode cX0_canBeCleared 8 = .ok (.aload_n 0, 1) := by decide +kernel
theorem dX0_canBeCleared_9 : decode cX0_canBeCleared 9 = .ok (.getfield 39, 3) := by decide +kernel
theorem dX0_canBeCleared_12 : decode cX0_canBeCleared 12 = .ok (.iload_n 1, 1) := by decide +kernel
theorem dX0_canBeCleared_13 : decode cX0_canBeCleared 13 = .ok (.if_icmp .le 15, 3) := by decide +kernel
theorem dX0_canBeCleared_16 : decode cX0_canBeCleared 16 = .ok (.aload_n 0, 1) := by decide +kernel
theorem dX0_canBeCleared_17 : decode cX0_canBeCleared 17 = .ok (.getfield 15, 3) := by decide +kernel
theorem dX0_canBeCleared_20 : decode cX0_canBeCleared 20 = .ok (.iconst (-1), 1) := by decide +kernel
theorem dX0_canBeCleared_21 : decode cX0_canBeCleared 21 = .ok (.if_icmp .eq 7, 3) := by decide +kernel
theorem dX0_canBeCleared_24 : decode cX0_canBeCleared 24 = .ok (.iconst 1, 1) := by decide +kernel
theorem dX0_canBeCleared_25 : decode cX0_canBeCleared 25 = .ok (.goto 4, 3) := by decide +kernel
theorem dX0_canBeCleared_28 : decode cX0_canBeCleared 28 = .ok (.iconst 0, 1) := by decide +kernel
theorem dX0_canBeCleared_29 : decode cX0_canBeCleared 29 = .ok (.ireturn, 1) := by decide +kernel
theorem dX0_discountOn_0 : decode cX0_discountOn 0 = .ok (.aload_n 0, 1) := by decide +kernel
theorem dX0_discountOn_1 : decode cX0_discountOn 1 = .ok (.getfield 36, 3) := by decide +kernel
theorem dX0_discountOn_4 : decode cX0_discountOn 4 = .ok (.i2l, 1) := by decide +kernel
theorem dX0_discountOn_5 : decode cX0_discountOn 5 = .ok (.aload_n 0, 1) := by decide +kernel
theorem dX0_discountOn_6 : decode cX0_discountOn 6 = .ok (.getfield 15, 3) := by decide +kernel
theorem dX0_discountOn_9 : decode cX0_discountOn 9 = .ok (.i2l, 1) := by decide +kernel
theorem dX0_discountOn_10 : decode cX0_discountOn 10 = .ok (.lmul, 1) := by decide +kernel
theorem dX0_discountOn_11 : decode cX0_discountOn 11 = .ok (.aload_n 0, 1) := by decide +kernel
theorem dX0_discountOn_12 : decode cX0_discountOn 12 = .ok (.getfield 39, 3) := by decide +kernel
theorem dX0_discountOn_15 : decode cX0_discountOn 15 = .ok (.iload_n 1, 1) := by decide +kernel
theorem dX0_discountOn_16 : decode cX0_discountOn 16 = .ok (.isub, 1) := by decide +kernel
theorem dX0_discountOn_17 : decode cX0_discountOn 17 = .ok (.i2l, 1) := by decide +kernel
theorem dX0_discountOn_18 : decode cX0_discountOn 18 = .ok (.lmul, 1) := by decide +kernel
theorem dX0_discountOn_19 : decode cX0_discountOn 19 = .ok (.ldc2_w 42, 3) := by decide +kernel
theorem dX0_discountOn_22 : decode cX0_discountOn 22 = .ok (.ldiv, 1) := by decide +kernel
theorem dX0_discountOn_23 : decode cX0_discountOn 23 = .ok (.l2i, 1) := by decide +kernel
theorem dX0_discountOn_24 : decode cX0_discountOn 24 = .ok (.ireturn, 1) := by decide +kernel
set_option maxRecDepth 20000 in
theorem ggX0_priceOn_X0_discountOn : GoodIn wsX0_priceOn wsX0_discountOn := goodIn_r _ [6, 1, 7, 8, 9, 10, 11, 12, 13, 14, 15, 16, 17, 18, 19] (by decide +kernel) (by decide +kernel)
set_option maxRecDepth 20000 in
theorem gX0_priceOn_X0_discountOn : GoodIn wsX0_priceOn (wsV RX0 44 RX0 yX0_discountOn wsX0_discountOn) := goodIn_app (goodIn_of _ (by decide +kernel)) ggX0_priceOn_X0_discountOn
theorem dX0_priceOn_0 : decode cX0_priceOn 0 = .ok (.aload_n 0, 1) := by decide +kernel
theorem dX0_priceOn_1 : decode cX0_priceOn 1 = .ok (.getfield 36, 3) := by decide +kernel
theorem dX0_priceOn_4 : decode cX0_priceOn 4 = .ok (.aload_n 0, 1) := by decide +kernel
theorem dX0_priceOn_5 : decode cX0_priceOn 5 = .ok (.iload_n 1, 1) := by decide +kernel
theorem dX0_priceOn_6 : decode cX0_priceOn 6 = .ok (.invokevirtual 44, 3) := by decide +kernel
theorem dX0_priceOn_9 : decode cX0_priceOn 9 = .ok (.isub, 1) := by decide +kernel
theorem dX0_priceOn_10 : decode cX0_priceOn 10 = .ok (.ireturn, 1) := by decide +kernel
set_option maxRecDepth 20000 in
theorem ggX1_init_Jx4a65c_init_da8c8 : GoodIn wsX1_init wsJx4a65c_init_da8c8 := goodIn_r _ [18, 19, 20, 21, 22, 23, 24, 25, 26, 27, 28, 29, 30, 2, 3, 42, 43, 44] (by decide +kernel) (by decide +kernel)
set_option maxRecDepth 20000 in
theorem gX1_init_Jx4a65c_init_da8c8 : GoodIn wsX1_init (wsJx4a65c_init_da8c8) := ggX1_init_Jx4a65c_init_da8c8
set_option maxRecDepth 20000 in
theorem ggX1_init_J7_fill_53178 : GoodIn wsX1_init wsJ7_fill_53178 := goodIn_r _ [34] (by decide +kernel) (by decide +kernel)
set_option maxRecDepth 20000 in
theorem gX1_init_J7_fill_53178 : GoodIn wsX1_init (va_wsS RX1 37 yJ7_fill_53178 wsJ7_fill_53178) := goodIn_app (goodIn_of _ (by decide +kernel)) ggX1_init_J7_fill_53178
theorem dX1_init_0 : decode cX1_init 0 = .ok (.aload_n 0, 1) := by decide +kernel
theorem dX1_init_1 : decode cX1_init 1 = .ok (.invokespecial 1, 3) := by decide +kernel
theorem dX1_init_4 : decode cX1_init 4 = .ok (.aload_n 0, 1) := by decide +kernel
theorem dX1_init_5 : decode cX1_init 5 = .ok (.iconst 4, 1) := by decide +kernel
theorem dX1_init_6 : decode cX1_init 6 = .ok (.newarray .int, 2) := by decide +kernel
theorem dX1_init_8 : decode cX1_init 8 = .ok (.putfield 9, 3) := by decide +kernel
theorem dX1_init_11 : decode cX1_init 11 = .ok (.aload_n 0, 1) := by decide +kernel
theorem dX1_init_12 : decode cX1_init 12 = .ok (.bipush 32, 2) := by decide +kernel
theorem dX1_init_14 : decode cX1_init 14 = .ok (.newarray .int, 2) := by decide +kernel
theorem dX1_init_16 : decode cX1_init 16 = .ok (.putfield 13, 3) := by decide +kernel
theorem dX1_init_19 : decode cX1_init 19 = .ok (.aload_n 0, 1) := by decide +kernel
theorem dX1_init_20 : decode cX1_init 20 = .ok (.bipush 32, 2) := by decide +kernel
theorem dX1_init_22 : decode cX1_init 22 = .ok (.newarray .int, 2) := by decide +kernel
theorem dX1_init_24 : decode cX1_init 24 = .ok (.putfield 16, 3) := by decide +kernel
theorem dX1_init_27 : decode cX1_init 27 = .ok (.aload_n 0, 1) := by decide +kernel
theorem dX1_init_28 : decode cX1_init 28 = .ok (.new 19, 3) := by decide +kernel
theorem dX1_init_31 : decode cX1_init 31 = .ok (.dup, 1) := by decide +kernel
theorem dX1_init_32 : decode cX1_init 32 = .ok (.invokespecial 21, 3) := by decide +kernel
theorem dX1_init_35 : decode cX1_init 35 = .ok (.putfield 22, 3) := by decide +kernel
theorem dX1_init_38 : decode cX1_init 38 = .ok (.aload_n 0, 1) := by decide +kernel
theorem dX1_init_39 : decode cX1_init 39 = .ok (.iconst 0, 1) := by decide +kernel
theorem dX1_init_40 : decode cX1_init 40 = .ok (.putfield 26, 3) := by decide +kernel
theorem dX1_init_43 : decode cX1_init 43 = .ok (.aload_n 0, 1) := by decide +kernel
theorem dX1_init_44 : decode cX1_init 44 = .ok (.new 19, 3) := by decide +kernel
theorem dX1_init_47 : decode cX1_init 47 = .ok (.dup, 1) := by decide +kernel
theorem dX1_init_48 : decode cX1_init 48 = .ok (.invokespecial 21, 3) := by decide +kernel
theorem dX1_init_51 : decode cX1_init 51 = .ok (.putfield 30, 3) := by decide +kernel
theorem dX1_init_54 : decode cX1_init 54 = .ok (.aload_n 0, 1) := by decide +kernel
theorem dX1_init_55 : decode cX1_init 55 = .ok (.bipush 8, 2) := by decide +kernel
theorem dX1_init_57 : decode cX1_init 57 = .ok (.newarray .int, 2) := by decide +kernel
theorem dX1_init_59 : decode cX1_init 59 = .ok (.putfield 33, 3) := by decide +kernel
theorem dX1_init_62 : decode cX1_init 62 = .ok (.aload_n 0, 1) := by decide +kernel
theorem dX1_init_63 : decode cX1_init 63 = .ok (.getfield 13, 3) := by decide +kernel
theorem dX1_init_66 : decode cX1_init 66 = .ok (.ldc 36, 2) := by decide +kernel
theorem dX1_init_68 : decode cX1_init 68 = .ok (.invokestatic 37, 3) := by decide +kernel
theorem dX1_init_71 : decode cX1_init 71 = .ok (.return_, 1) := by decide +kernel
set_option maxRecDepth 20000 in
theorem ggX1_setBudget_X1_checkBuyer : GoodIn wsX1_setBudget wsX1_checkBuyer := goodIn_ca (goodIn_r _ [6, 7, 8] (by decide +kernel) (by decide +kernel)) (goodIn_sub (fun _ h => List.mem_cons_of_mem _ (List.mem_append_left _ (List.mem_append_right _ h))) (by decide +kernel))
set_option maxRecDepth 20000 in
theorem gX1_setBudget_X1_checkBuyer : GoodIn wsX1_setBudget (va_wsS RX1 43 yX1_checkBuyer wsX1_checkBuyer) := goodIn_app (goodIn_of _ (by decide +kernel)) ggX1_setBudget_X1_checkBuyer
set_option maxRecDepth 20000 in
theorem ggX1_setBudget_X1_checkRange : GoodIn wsX1_setBudget wsX1_checkRange := goodIn_ca (goodIn_r _ [11, 12, 13] (by decide +kernel) (by decide +kernel)) (goodIn_sub (fun _ h => List.mem_cons_of_mem _ (List.mem_append_right _ h)) (by decide +kernel))
set_option maxRecDepth 20000 in
theorem gX1_setBudget_X1_checkRange : GoodIn wsX1_setBudget (va_wsS RX1 48 yX1_checkRange wsX1_checkRange) := goodIn_app (goodIn_of _ (by decide +kernel)) ggX1_setBudget_X1_checkRange
theorem dX1_setBudget_0 : decode cX1_setBudget 0 = .ok (.iload_n 1, 1) := by decide +kernel
theorem dX1_setBudget_1 : decode cX1_setBudget 1 = .ok (.invokestatic 43, 3) := by decide +kernel
theorem dX1_setBudget_4 : decode cX1_setBudget 4 = .ok (.iload_n 2, 1) := by decide +kernel
theorem dX1_setBudget_5 : decode cX1_setBudget 5 = .ok (.iconst 0, 1) := by decide +kernel
theorem dX1_setBudget_6 : decode cX1_setBudget 6 = .ok (.ldc 47, 2) := by decide +kernel
theorem dX1_setBudget_8 : decode cX1_setBudget 8 = .ok (.invokestatic 48, 3) := by decide +kernel
theorem dX1_setBudget_11 : decode cX1_setBudget 11 = .ok (.aload_n 0, 1) := by decide +kernel
theorem dX1_setBudget_12 : decode cX1_setBudget 12 = .ok (.getfield 9, 3) := by decide +kernel
theorem dX1_setBudget_15 : decode cX1_setBudget 15 = .ok (.iload_n 1, 1) := by decide +kernel
theorem dX1_setBudget_16 : decode cX1_setBudget 16 = .ok (.iaload, 1) := by decide +kernel
theorem dX1_setBudget_17 : decode cX1_setBudget 17 = .ok (.istore_n 3, 1) := by decide +kernel
theorem dX1_setBudget_18 : decode cX1_setBudget 18 = .ok (.aload_n 0, 1) := by decide +kernel
theorem dX1_setBudget_19 : decode cX1_setBudget 19 = .ok (.getfield 9, 3) := by decide +kernel
theorem dX1_setBudget_22 : decode cX1_setBudget 22 = .ok (.iload_n 1, 1) := by decide +kernel
theorem dX1_setBudget_23 : decode cX1_setBudget 23 = .ok (.iload_n 2, 1) := by decide +kernel
theorem dX1_setBudget_24 : decode cX1_setBudget 24 = .ok (.iastore, 1) := by decide +kernel
theorem dX1_setBudget_25 : decode cX1_setBudget 25 = .ok (.iload_n 3, 1) := by decide +kernel
theorem dX1_setBudget_26 : decode cX1_setBudget 26 = .ok (.ireturn, 1) := by decide +kernel
set_option maxRecDepth 20000 in
theorem ggX1_setLimit_X1_pairOf : GoodIn wsX1_setLimit wsX1_pairOf := goodIn_ca (goodIn_r _ [6, 7, 8, 5, 9, 10, 11, 12, 13, 14] (by decide +kernel) (by decide +kernel)) (goodIn_sub (fun _ h => List.mem_cons_of_mem _ (List.mem_append_left _ (List.mem_append_right _ h))) (by decide +kernel))
set_option maxRecDepth 20000 in
theorem gX1_setLimit_X1_pairOf : GoodIn wsX1_setLimit (va_wsS RX1 52 yX1_pairOf wsX1_pairOf) := goodIn_app (goodIn_of _ (by decide +kernel)) ggX1_setLimit_X1_pairOf
set_option maxRecDepth 20000 in
theorem ggX1_setLimit_X1_checkRange : GoodIn wsX1_setLimit wsX1_checkRange := goodIn_ca (goodIn_r _ [17, 18, 19] (by decide +kernel) (by decide +kernel)) (goodIn_sub (fun _ h => List.mem_cons_of_mem _ (List.mem_append_right _ h)) (by decide +kernel))
set_option maxRecDepth 20000 in
theorem gX1_setLimit_X1_checkRange : GoodIn wsX1_setLimit (va_wsS RX1 48 yX1_checkRange wsX1_checkRange) := goodIn_app (goodIn_of _ (by decide +kernel)) ggX1_setLimit_X1_checkRange
theorem dX1_setLimit_0 : decode cX1_setLimit 0 = .ok (.iload_n 1, 1) := by decide +kernel
theorem dX1_setLimit_1 : decode cX1_setLimit 1 = .ok (.iload_n 2, 1) := by decide +kernel
theorem dX1_setLimit_2 : decode cX1_setLimit 2 = .ok (.invokestatic 52, 3) := by decide +kernel
theorem dX1_setLimit_5 : decode cX1_setLimit 5 = .ok (.istore 4, 2) := by decide +kernel
theorem dX1_setLimit_7 : decode cX1_setLimit 7 = .ok (.iload_n 3, 1) := by decide +kernel
theorem dX1_setLimit_8 : decode cX1_setLimit 8 = .ok (.iconst 0, 1) := by decide +kernel
theorem dX1_setLimit_9 : decode cX1_setLimit 9 = .ok (.ldc 47, 2) := by decide +kernel
theorem dX1_setLimit_11 : decode cX1_setLimit 11 = .ok (.invokestatic 48, 3) := by decide +kernel
theorem dX1_setLimit_14 : decode cX1_setLimit 14 = .ok (.aload_n 0, 1) := by decide +kernel
theorem dX1_setLimit_15 : decode cX1_setLimit 15 = .ok (.getfield 13, 3) := by decide +kernel
theorem dX1_setLimit_18 : decode cX1_setLimit 18 = .ok (.iload 4, 2) := by decide +kernel
theorem dX1_setLimit_20 : decode cX1_setLimit 20 = .ok (.iaload, 1) := by decide +kernel
theorem dX1_setLimit_21 : decode cX1_setLimit 21 = .ok (.istore 5, 2) := by decide +kernel
theorem dX1_setLimit_23 : decode cX1_setLimit 23 = .ok (.aload_n 0, 1) := by decide +kernel
theorem dX1_setLimit_24 : decode cX1_setLimit 24 = .ok (.getfield 13, 3) := by decide +kernel
theorem dX1_setLimit_27 : decode cX1_setLimit 27 = .ok (.iload 4, 2) := by decide +kernel
theorem dX1_setLimit_29 : decode cX1_setLimit 29 = .ok (.iload_n 3, 1) := by decide +kernel
theorem dX1_setLimit_30 : decode cX1_setLimit 30 = .ok (.iastore, 1) := by decide +kernel
theorem dX1_setLimit_31 : decode cX1_setLimit 31 = .ok (.iload 5, 2) := by decide +kernel
theorem dX1_setLimit_33 : decode cX1_setLimit 33 = .ok (.ireturn, 1) := by decide +kernel
set_option maxRecDepth 20000 in
theorem ggX1_bill_X1_checkBuyer : GoodIn wsX1_bill wsX1_checkBuyer := goodIn_ca (goodIn_r _ [10, 11, 12] (by decide +kernel) (by decide +kernel)) (goodIn_sub (fun _ h => List.mem_cons_of_mem _ (List.mem_append_left _ (List.mem_append_left _ (List.mem_append_right _ h)))) (by decide +kernel))
set_option maxRecDepth 20000 in
theorem gX1_bill_X1_checkBuyer : GoodIn wsX1_bill (va_wsS RX1 43 yX1_checkBuyer wsX1_checkBuyer) := goodIn_app (goodIn_of _ (by decide +kernel)) ggX1_bill_X1_checkBuyer
set_option maxRecDepth 20000 in
theorem ggX1_bill_X1_checkSupplier : GoodIn wsX1_bill wsX1_checkSupplier := goodIn_ca (goodIn_r _ [15, 11, 12] (by decide +kernel) (by decide +kernel)) (goodIn_sub (fun _ h => List.mem_cons_of_mem _ (List.mem_append_left _ (List.mem_append_left _ (List.mem_append_right _ h)))) (by decide +kernel))
set_option maxRecDepth 20000 in
theorem gX1_bill_X1_checkSupplier : GoodIn wsX1_bill (va_wsS RX1 56 yX1_checkSupplier wsX1_checkSupplier) := goodIn_app (goodIn_of _ (by decide +kernel)) ggX1_bill_X1_checkSupplier
set_option maxRecDepth 20000 in
theorem ggX1_bill_X1_checkRange : GoodIn wsX1_bill wsX1_checkRange := goodIn_ca (goodIn_r _ [18, 19, 20] (by decide +kernel) (by decide +kernel)) (goodIn_sub (fun _ h => List.mem_cons_of_mem _ (List.mem_append_left _ (List.mem_append_right _ h))) (by decide +kernel))
set_option maxRecDepth 20000 in
theorem gX1_bill_X1_checkRange : GoodIn wsX1_bill (va_wsS RX1 48 yX1_checkRange wsX1_checkRange) := goodIn_app (goodIn_of _ (by decide +kernel)) ggX1_bill_X1_checkRange
set_option maxRecDepth 20000 in
theorem ggX1_bill_Jx4a65c_size_8abf5 : GoodIn wsX1_bill wsJx4a65c_size_8abf5 := goodIn_r _ [25, 26, 119, 120, 121] (by decide +kernel) (by decide +kernel)
set_option maxRecDepth 20000 in
theorem gX1_bill_Jx4a65c_size_8abf5 : GoodIn wsX1_bill (wsV RX1 60 RJx4a65c yJx4a65c_size_8abf5 wsJx4a65c_size_8abf5) := goodIn_app (goodIn_of _ (by decide +kernel)) ggX1_bill_Jx4a65c_size_8abf5
set_option maxRecDepth 20000 in
theorem ggX1_bill_X1_checkPossible : GoodIn wsX1_bill wsX1_checkPossible := goodIn_ca (goodIn_r _ [29, 30, 31] (by decide +kernel) (by decide +kernel)) (goodIn_sub (fun _ h => List.mem_cons_of_mem _ (List.mem_append_right _ h)) (by decide +kernel))
set_option maxRecDepth 20000 in
theorem gX1_bill_X1_checkPossible : GoodIn wsX1_bill (va_wsS RX1 64 yX1_checkPossible wsX1_checkPossible) := goodIn_app (goodIn_of _ (by decide +kernel)) ggX1_bill_X1_checkPossible
set_option maxRecDepth 20000 in
theorem ggX1_bill_X0_init : GoodIn wsX1_bill wsX0_init := goodIn_r _ [34, 35, 36, 37, 38, 39, 40, 41, 42, 43, 44, 45, 46, 47, 109, 110, 111, 112, 113, 114, 115, 116, 117, 118] (by decide +kernel) (by decide +kernel)
set_option maxRecDepth 20000 in
theorem gX1_bill_X0_init : GoodIn wsX1_bill (wsX0_init) := ggX1_bill_X0_init
set_option maxRecDepth 20000 in
theorem ggX1_bill_Jx4a65c_add_9ea2d : GoodIn wsX1_bill wsJx4a65c_add_9ea2d := goodIn_r _ [51, 52, 53, 54, 26, 55, 56, 57, 24, 58, 59, 60, 61, 62, 63, 64, 65, 66, 67, 68, 69, 70, 71, 72, 73, 74, 75, 76, 77, 78, 79, 80, 81, 82, 83, 84, 85, 86, 87, 88, 89, 90, 91, 92, 93, 94, 95, 96, 97, 98, 99, 100, 101, 119, 120, 121] (by decide +kernel) (by decide +kernel)
set_option maxRecDepth 20000 in
theorem gX1_bill_Jx4a65c_add_9ea2d : GoodIn wsX1_bill (wsV RX1 73 RJx4a65c yJx4a65c_add_9ea2d wsJx4a65c_add_9ea2d) := goodIn_app (goodIn_of _ (by decide +kernel)) ggX1_bill_Jx4a65c_add_9ea2d
theorem dX1_bill_0 : decode cX1_bill 0 = .ok (.iload_n 1, 1) := by decide +kernel
theorem dX1_bill_1 : decode cX1_bill 1 = .ok (.invokestatic 43, 3) := by decide +kernel
theorem dX1_bill_4 : decode cX1_bill 4 = .ok (.iload_n 2, 1) := by decide +kernel
theorem dX1_bill_5 : decode cX1_bill 5 = .ok (.invokestatic 56, 3) := by decide +kernel
theorem dX1_bill_8 : decode cX1_bill 8 = .ok (.iload_n 3, 1) := by decide +kernel
theorem dX1_bill_9 : decode cX1_bill 9 = .ok (.iconst 1, 1) := by decide +kernel
theorem dX1_bill_10 : decode cX1_bill 10 = .ok (.ldc 59, 2) := by decide +kernel
theorem dX1_bill_12 : decode cX1_bill 12 = .ok (.invokestatic 48, 3) := by decide +kernel
theorem dX1_bill_15 : decode cX1_bill 15 = .ok (.iload 4, 2) := by decide +kernel
theorem dX1_bill_17 : decode cX1_bill 17 = .ok (.iconst 1, 1) := by decide +kernel
theorem dX1_bill_18 : decode cX1_bill 18 = .ok (.sipush 360, 3) := by decide +kernel
theorem dX1_bill_21 : decode cX1_bill 21 = .ok (.invokestatic 48, 3) := by decide +kernel
theorem dX1_bill_24 : decode cX1_bill 24 = .ok (.aload_n 0, 1) := by decide +kernel
theorem dX1_bill_25 : decode cX1_bill 25 = .ok (.getfield 22, 3) := by decide +kernel
theorem dX1_bill_28 : decode cX1_bill 28 = .ok (.invokevirtual 60, 3) := by decide +kernel
theorem dX1_bill_31 : decode cX1_bill 31 = .ok (.istore 5, 2) := by decide +kernel
theorem dX1_bill_33 : decode cX1_bill 33 = .ok (.iload 5, 2) := by decide +kernel
theorem dX1_bill_35 : decode cX1_bill 35 = .ok (.bipush 30, 2) := by decide +kernel
theorem dX1_bill_37 : decode cX1_bill 37 = .ok (.if_icmp .ge 7, 3) := by decide +kernel
theorem dX1_bill_40 : decode cX1_bill 40 = .ok (.iconst 1, 1) := by decide +kernel
theorem dX1_bill_41 : decode cX1_bill 41 = .ok (.goto 4, 3) := by decide +kernel
theorem dX1_bill_44 : decode cX1_bill 44 = .ok (.iconst 0, 1) := by decide +kernel
theorem dX1_bill_45 : decode cX1_bill 45 = .ok (.invokestatic 64, 3) := by decide +kernel
theorem dX1_bill_48 : decode cX1_bill 48 = .ok (.aload_n 0, 1) := by decide +kernel
theorem dX1_bill_49 : decode cX1_bill 49 = .ok (.getfield 22, 3) := by decide +kernel
theorem dX1_bill_52 : decode cX1_bill 52 = .ok (.new 68, 3) := by decide +kernel
theorem dX1_bill_55 : decode cX1_bill 55 = .ok (.dup, 1) := by decide +kernel
theorem dX1_bill_56 : decode cX1_bill 56 = .ok (.iload 5, 2) := by decide +kernel
theorem dX1_bill_58 : decode cX1_bill 58 = .ok (.iload_n 1, 1) := by decide +kernel
theorem dX1_bill_59 : decode cX1_bill 59 = .ok (.iload_n 2, 1) := by decide +kernel
theorem dX1_bill_60 : decode cX1_bill 60 = .ok (.iload_n 3, 1) := by decide +kernel
theorem dX1_bill_61 : decode cX1_bill 61 = .ok (.aload_n 0, 1) := by decide +kernel
theorem dX1_bill_62 : decode cX1_bill 62 = .ok (.getfield 26, 3) := by decide +kernel
theorem dX1_bill_65 : decode cX1_bill 65 = .ok (.iload 4, 2) := by decide +kernel
theorem dX1_bill_67 : decode cX1_bill 67 = .ok (.iadd, 1) := by decide +kernel
theorem dX1_bill_68 : decode cX1_bill 68 = .ok (.invokespecial 70, 3) := by decide +kernel
theorem dX1_bill_71 : decode cX1_bill 71 = .ok (.invokevirtual 73, 3) := by decide +kernel
theorem dX1_bill_74 : decode cX1_bill 74 = .ok (.pop, 1) := by decide +kernel
theorem dX1_bill_75 : decode cX1_bill 75 = .ok (.iload 5, 2) := by decide +kernel
theorem dX1_bill_77 : decode cX1_bill 77 = .ok (.ireturn, 1) := by decide +kernel
set_option maxRecDepth 20000 in
theorem ggX1_approve_X1_billAt : GoodIn wsX1_approve wsX1_billAt := goodIn_ca (goodIn_r _ [8, 9, 10, 11, 12, 13, 14, 15, 16, 17, 18, 19, 20, 21, 22, 23, 24, 25, 26, 27, 28, 29, 30, 31, 32, 33, 34, 35, 78, 79, 80, 81, 82, 83, 84, 85, 86, 87] (by decide +kernel) (by decide +kernel)) (goodIn_sub (fun _ h => List.mem_cons_of_mem _ (List.mem_append_left _ (List.mem_append_right _ h))) (by decide +kernel))
set_option maxRecDepth 20000 in
theorem gX1_approve_X1_billAt : GoodIn wsX1_approve (wsV RX1 77 RX1 yX1_billAt wsX1_billAt) := goodIn_app (goodIn_of _ (by decide +kernel)) ggX1_approve_X1_billAt
set_option maxRecDepth 20000 in
theorem ggX1_approve_X1_checkPossible : GoodIn wsX1_approve wsX1_checkPossible := goodIn_ca (goodIn_r _ [38, 39, 40] (by decide +kernel) (by decide +kernel)) (goodIn_sub (fun _ h => List.mem_cons_of_mem _ (List.mem_append_right _ h)) (by decide +kernel))
set_option maxRecDepth 20000 in
theorem gX1_approve_X1_checkPossible : GoodIn wsX1_approve (va_wsS RX1 64 yX1_checkPossible wsX1_checkPossible) := goodIn_app (goodIn_of _ (by decide +kernel)) ggX1_approve_X1_checkPossible
set_option maxRecDepth 20000 in
theorem ggX1_approve_X1_payWhenDue : GoodIn wsX1_approve wsX1_payWhenDue := goodIn_ca (goodIn_r _ [44, 1, 45, 46, 47, 48, 7, 49, 50, 51, 52, 53, 54, 55, 56, 57, 58, 59, 60, 61, 62, 63, 64, 9, 10, 65, 66, 67, 68, 69, 70, 71, 72, 73, 74, 75, 76, 77, 78, 79, 80, 81, 82, 83, 84] (by decide +kernel) (by decide +kernel)) (goodIn_sub (fun _ h => List.mem_cons_of_mem _ (List.mem_append_left _ (List.mem_append_right _ h))) (by decide +kernel))
set_option maxRecDepth 20000 in
theorem gX1_approve_X1_payWhenDue : GoodIn wsX1_approve (wsV RX1 87 RX1 yX1_payWhenDue wsX1_payWhenDue) := goodIn_app (goodIn_of _ (by decide +kernel)) ggX1_approve_X1_payWhenDue
theorem dX1_approve_0 : decode cX1_approve 0 = .ok (.aload_n 0, 1) := by decide +kernel
theorem dX1_approve_1 : decode cX1_approve 1 = .ok (.iload_n 1, 1) := by decide +kernel
theorem dX1_approve_2 : decode cX1_approve 2 = .ok (.invokevirtual 77, 3) := by decide +kernel
theorem dX1_approve_5 : decode cX1_approve 5 = .ok (.astore_n 2, 1) := by decide +kernel
theorem dX1_approve_6 : decode cX1_approve 6 = .ok (.aload_n 2, 1) := by decide +kernel
theorem dX1_approve_7 : decode cX1_approve 7 = .ok (.getfield 81, 3) := by decide +kernel
theorem dX1_approve_10 : decode cX1_approve 10 = .ok (.ifCond .eq 11, 3) := by decide +kernel
theorem dX1_approve_13 : decode cX1_approve 13 = .ok (.aload_n 2, 1) := by decide +kernel
theorem dX1_approve_14 : decode cX1_approve 14 = .ok (.getfield 81, 3) := by decide +kernel
theorem dX1_approve_17 : decode cX1_approve 17 = .ok (.iconst 2, 1) := by decide +kernel
theorem dX1_approve_18 : decode cX1_approve 18 = .ok (.if_icmp .ne 7, 3) := by decide +kernel
theorem dX1_approve_21 : decode cX1_approve 21 = .ok (.iconst 1, 1) := by decide +kernel
theorem dX1_approve_22 : decode cX1_approve 22 = .ok (.goto 4, 3) := by decide +kernel
theorem dX1_approve_25 : decode cX1_approve 25 = .ok (.iconst 0, 1) := by decide +kernel
theorem dX1_approve_26 : decode cX1_approve 26 = .ok (.invokestatic 64, 3) := by decide +kernel
theorem dX1_approve_29 : decode cX1_approve 29 = .ok (.aload_n 2, 1) := by decide +kernel
theorem dX1_approve_30 : decode cX1_approve 30 = .ok (.getfield 84, 3) := by decide +kernel
theorem dX1_approve_33 : decode cX1_approve 33 = .ok (.aload_n 0, 1) := by decide +kernel
theorem dX1_approve_34 : decode cX1_approve 34 = .ok (.getfield 26, 3) := by decide +kernel
theorem dX1_approve_37 : decode cX1_approve 37 = .ok (.if_icmp .gt 7, 3) := by decide +kernel
theorem dX1_approve_40 : decode cX1_approve 40 = .ok (.iconst 1, 1) := by decide +kernel
theorem dX1_approve_41 : decode cX1_approve 41 = .ok (.goto 4, 3) := by decide +kernel
theorem dX1_approve_44 : decode cX1_approve 44 = .ok (.iconst 0, 1) := by decide +kernel
theorem dX1_approve_45 : decode cX1_approve 45 = .ok (.istore_n 3, 1) := by decide +kernel
theorem dX1_approve_46 : decode cX1_approve 46 = .ok (.iload_n 3, 1) := by decide +kernel
theorem dX1_approve_47 : decode cX1_approve 47 = .ok (.ifCond .eq 11, 3) := by decide +kernel
theorem dX1_approve_50 : decode cX1_approve 50 = .ok (.aload_n 0, 1) := by decide +kernel
theorem dX1_approve_51 : decode cX1_approve 51 = .ok (.aload_n 2, 1) := by decide +kernel
theorem dX1_approve_52 : decode cX1_approve 52 = .ok (.invokevirtual 87, 3) := by decide +kernel
theorem dX1_approve_55 : decode cX1_approve 55 = .ok (.goto 8, 3) := by decide +kernel
theorem dX1_approve_58 : decode cX1_approve 58 = .ok (.aload_n 2, 1) := by decide +kernel
theorem dX1_approve_59 : decode cX1_approve 59 = .ok (.iconst 1, 1) := by decide +kernel
theorem dX1_approve_60 : decode cX1_approve 60 = .ok (.putfield 81, 3) := by decide +kernel
theorem dX1_approve_63 : decode cX1_approve 63 = .ok (.iload_n 3, 1) := by decide +kernel
theorem dX1_approve_64 : decode cX1_approve 64 = .ok (.ireturn, 1) := by decide +kernel
set_option maxRecDepth 20000 in
theorem ggX1_dispute_X1_billAt : GoodIn wsX1_dispute wsX1_billAt := goodIn_ca (goodIn_r _ [7, 8, 9, 10, 11, 12, 13, 14, 15, 16, 17, 18, 19, 20, 21, 22, 23, 24, 25, 26, 27, 28, 29, 30, 31, 32, 33, 34, 50, 51, 52, 53, 54, 55, 56, 57, 58, 59] (by decide +kernel) (by decide +kernel)) (goodIn_sub (fun _ h => List.mem_cons_of_mem _ (List.mem_append_left _ (List.mem_append_right _ h))) (by decide +kernel))
set_option maxRecDepth 20000 in
theorem gX1_dispute_X1_billAt : GoodIn wsX1_dispute (wsV RX1 77 RX1 yX1_billAt wsX1_billAt) := goodIn_app (goodIn_of _ (by decide +kernel)) ggX1_dispute_X1_billAt
set_option maxRecDepth 20000 in
theorem ggX1_dispute_X1_checkPossible : GoodIn wsX1_dispute wsX1_checkPossible := goodIn_ca (goodIn_r _ [37, 38, 39] (by decide +kernel) (by decide +kernel)) (goodIn_sub (fun _ h => List.mem_cons_of_mem _ (List.mem_append_right _ h)) (by decide +kernel))
set_option maxRecDepth 20000 in
theorem gX1_dispute_X1_checkPossible : GoodIn wsX1_dispute (va_wsS RX1 64 yX1_checkPossible wsX1_checkPossible) := goodIn_app (goodIn_of _ (by decide +kernel)) ggX1_dispute_X1_checkPossible
theorem dX1_dispute_0 : decode cX1_dispute 0 = .ok (.aload_n 0, 1) := by decide +kernel
theorem dX1_dispute_1 : decode cX1_dispute 1 = .ok (.iload_n 1, 1) := by decide +kernel
theorem dX1_dispute_2 : decode cX1_dispute 2 = .ok (.invokevirtual 77, 3) := by decide +kernel
theorem dX1_dispute_5 : decode cX1_dispute 5 = .ok (.astore_n 2, 1) := by decide +kernel
theorem dX1_dispute_6 : decode cX1_dispute 6 = .ok (.aload_n 2, 1) := by decide +kernel
theorem dX1_dispute_7 : decode cX1_dispute 7 = .ok (.getfield 81, 3) := by decide +kernel
theorem dX1_dispute_10 : decode cX1_dispute 10 = .ok (.ifCond .eq 11, 3) := by decide +kernel
theorem dX1_dispute_13 : decode cX1_dispute 13 = .ok (.aload_n 2, 1) := by decide +kernel
theorem dX1_dispute_14 : decode cX1_dispute 14 = .ok (.getfield 81, 3) := by decide +kernel
theorem dX1_dispute_17 : decode cX1_dispute 17 = .ok (.iconst 1, 1) := by decide +kernel
theorem dX1_dispute_18 : decode cX1_dispute 18 = .ok (.if_icmp .ne 7, 3) := by decide +kernel
theorem dX1_dispute_21 : decode cX1_dispute 21 = .ok (.iconst 1, 1) := by decide +kernel
theorem dX1_dispute_22 : decode cX1_dispute 22 = .ok (.goto 4, 3) := by decide +kernel
theorem dX1_dispute_25 : decode cX1_dispute 25 = .ok (.iconst 0, 1) := by decide +kernel
theorem dX1_dispute_26 : decode cX1_dispute 26 = .ok (.invokestatic 64, 3) := by decide +kernel
theorem dX1_dispute_29 : decode cX1_dispute 29 = .ok (.aload_n 2, 1) := by decide +kernel
theorem dX1_dispute_30 : decode cX1_dispute 30 = .ok (.iconst 2, 1) := by decide +kernel
theorem dX1_dispute_31 : decode cX1_dispute 31 = .ok (.putfield 81, 3) := by decide +kernel
theorem dX1_dispute_34 : decode cX1_dispute 34 = .ok (.aload_n 2, 1) := by decide +kernel
theorem dX1_dispute_35 : decode cX1_dispute 35 = .ok (.iconst (-1), 1) := by decide +kernel
theorem dX1_dispute_36 : decode cX1_dispute 36 = .ok (.putfield 91, 3) := by decide +kernel
theorem dX1_dispute_39 : decode cX1_dispute 39 = .ok (.return_, 1) := by decide +kernel
set_option maxRecDepth 20000 in
theorem ggX1_note_X1_billAt : GoodIn wsX1_note wsX1_billAt := goodIn_ca (goodIn_r _ [7, 8, 9, 10, 11, 12, 13, 14, 15, 16, 17, 18, 19, 20, 21, 22, 23, 24, 25, 26, 27, 28, 29, 30, 31, 32, 33, 34, 74, 75, 76, 77, 78, 79, 80, 81, 82, 83] (by decide +kernel) (by decide +kernel)) (goodIn_sub (fun _ h => List.mem_cons_of_mem _ (List.mem_append_left _ (List.mem_append_right _ h))) (by decide +kernel))
set_option maxRecDepth 20000 in
theorem gX1_note_X1_billAt : GoodIn wsX1_note (wsV RX1 77 RX1 yX1_billAt wsX1_billAt) := goodIn_app (goodIn_of _ (by decide +kernel)) ggX1_note_X1_billAt
set_option maxRecDepth 20000 in
theorem ggX1_note_X1_checkRange : GoodIn wsX1_note wsX1_checkRange := goodIn_ca (goodIn_r _ [37, 38, 39] (by decide +kernel) (by decide +kernel)) (goodIn_sub (fun _ h => List.mem_cons_of_mem _ (List.mem_append_right _ h)) (by decide +kernel))
set_option maxRecDepth 20000 in
theorem gX1_note_X1_checkRange : GoodIn wsX1_note (va_wsS RX1 48 yX1_checkRange wsX1_checkRange) := goodIn_app (goodIn_of _ (by decide +kernel)) ggX1_note_X1_checkRange
set_option maxRecDepth 20000 in
theorem ggX1_note_X0_isPaid : GoodIn wsX1_note wsX0_isPaid := goodIn_r _ [44, 45, 64, 65, 66, 67, 68, 69, 70, 71, 72, 73] (by decide +kernel) (by decide +kernel)
set_option maxRecDepth 20000 in
theorem gX1_note_X0_isPaid : GoodIn wsX1_note (wsV RX1 100 RX0 yX0_isPaid wsX0_isPaid) := goodIn_app (goodIn_of _ (by decide +kernel)) ggX1_note_X0_isPaid
set_option maxRecDepth 20000 in
theorem ggX1_note_X1_noteOnPaid : GoodIn wsX1_note wsX1_noteOnPaid := goodIn_ca (goodIn_ca (goodIn_r _ [49, 1, 50, 51, 2, 52, 53, 54, 35, 36, 6, 37, 38, 39, 55, 56, 57, 58, 59, 60, 8, 9, 61, 62, 63, 64, 65, 66, 67, 68, 69, 70, 71, 72, 73, 74, 75, 76, 77, 78, 79, 80] (by decide +kernel) (by decide +kernel)) (goodIn_sub (fun _ h => List.mem_cons_of_mem _ (List.mem_append_right _ h)) (by decide +kernel))) (goodIn_sub (fun _ h => List.mem_cons_of_mem _ (List.mem_append_left _ (List.mem_append_right _ h))) (by decide +kernel))
set_option maxRecDepth 20000 in
theorem gX1_note_X1_noteOnPaid : GoodIn wsX1_note (wsV RX1 104 RX1 yX1_noteOnPaid wsX1_noteOnPaid) := goodIn_app (goodIn_of _ (by decide +kernel)) ggX1_note_X1_noteOnPaid
theorem dX1_note_0 : decode cX1_note 0 = .ok (.aload_n 0, 1) := by decide +kernel
theorem dX1_note_1 : decode cX1_note 1 = .ok (.iload_n 1, 1) := by decide +kernel
theorem dX1_note_2 : decode cX1_note 2 = .ok (.invokevirtual 77, 3) := by decide +kernel
theorem dX1_note_5 : decode cX1_note 5 = .ok (.astore_n 3, 1) := by decide +kernel
theorem dX1_note_6 : decode cX1_note 6 = .ok (.iload_n 2, 1) := by decide +kernel
theorem dX1_note_7 : decode cX1_note 7 = .ok (.iconst 1, 1) := by decide +kernel
theorem dX1_note_8 : decode cX1_note 8 = .ok (.aload_n 3, 1) := by decide +kernel
theorem dX1_note_9 : decode cX1_note 9 = .ok (.getfield 94, 3) := by decide +kernel
theorem dX1_note_12 : decode cX1_note 12 = .ok (.aload_n 3, 1) := by decide +kernel
theorem dX1_note_13 : decode cX1_note 13 = .ok (.getfield 97, 3) := by decide +kernel
theorem dX1_note_16 : decode cX1_note 16 = .ok (.isub, 1) := by decide +kernel
theorem dX1_note_17 : decode cX1_note 17 = .ok (.invokestatic 48, 3) := by decide +kernel
theorem dX1_note_20 : decode cX1_note 20 = .ok (.aload_n 3, 1) := by decide +kernel
theorem dX1_note_21 : decode cX1_note 21 = .ok (.invokevirtual 100, 3) := by decide +kernel
theorem dX1_note_24 : decode cX1_note 24 = .ok (.ifCond .eq 10, 3) := by decide +kernel
theorem dX1_note_27 : decode cX1_note 27 = .ok (.aload_n 0, 1) := by decide +kernel
theorem dX1_note_28 : decode cX1_note 28 = .ok (.aload_n 3, 1) := by decide +kernel
theorem dX1_note_29 : decode cX1_note 29 = .ok (.iload_n 2, 1) := by decide +kernel
theorem dX1_note_30 : decode cX1_note 30 = .ok (.invokevirtual 104, 3) := by decide +kernel
theorem dX1_note_33 : decode cX1_note 33 = .ok (.ireturn, 1) := by decide +kernel
theorem dX1_note_34 : decode cX1_note 34 = .ok (.aload_n 3, 1) := by decide +kernel
theorem dX1_note_35 : decode cX1_note 35 = .ok (.dup, 1) := by decide +kernel
theorem dX1_note_36 : decode cX1_note 36 = .ok (.getfield 94, 3) := by decide +kernel
theorem dX1_note_39 : decode cX1_note 39 = .ok (.iload_n 2, 1) := by decide +kernel
theorem dX1_note_40 : decode cX1_note 40 = .ok (.isub, 1) := by decide +kernel
theorem dX1_note_41 : decode cX1_note 41 = .ok (.putfield 94, 3) := by decide +kernel
theorem dX1_note_44 : decode cX1_note 44 = .ok (.aload_n 3, 1) := by decide +kernel
theorem dX1_note_45 : decode cX1_note 45 = .ok (.getfield 94, 3) := by decide +kernel
theorem dX1_note_48 : decode cX1_note 48 = .ok (.ireturn, 1) := by decide +kernel
set_option maxRecDepth 20000 in
theorem ggX1_state_X1_billAt : GoodIn wsX1_state wsX1_billAt := goodIn_ca (goodIn_r _ [6, 7, 8, 9, 10, 11, 12, 13, 14, 15, 16, 17, 18, 19, 20, 21, 22, 23, 24, 25, 26, 27, 28, 29, 30, 31, 32, 33, 44, 45, 46, 47, 48, 49, 50, 51, 52, 53] (by decide +kernel) (by decide +kernel)) (goodIn_sub (fun _ h => List.mem_cons_of_mem _ (List.mem_append_right _ h)) (by decide +kernel))
set_option maxRecDepth 20000 in
theorem gX1_state_X1_billAt : GoodIn wsX1_state (wsV RX1 77 RX1 yX1_billAt wsX1_billAt) := goodIn_app (goodIn_of _ (by decide +kernel)) ggX1_state_X1_billAt
theorem dX1_state_0 : decode cX1_state 0 = .ok (.aload_n 0, 1) := by decide +kernel
theorem dX1_state_1 : decode cX1_state 1 = .ok (.iload_n 1, 1) := by decide +kernel
theorem dX1_state_2 : decode cX1_state 2 = .ok (.invokevirtual 77, 3) := by decide +kernel
theorem dX1_state_5 : decode cX1_state 5 = .ok (.getfield 81, 3) := by decide +kernel
theorem dX1_state_8 : decode cX1_state 8 = .ok (.ireturn, 1) := by decide +kernel
set_option maxRecDepth 20000 in
theorem ggX1_amount_X1_billAt : GoodIn wsX1_amount wsX1_billAt := goodIn_ca (goodIn_r _ [6, 7, 8, 9, 10, 11, 12, 13, 14, 15, 16, 17, 18, 19, 20, 21, 22, 23, 24, 25, 26, 27, 28, 29, 30, 31, 32, 33, 44, 45, 46, 47, 48, 49, 50, 51, 52, 53] (by decide +kernel) (by decide +kernel)) (goodIn_sub (fun _ h => List.mem_cons_of_mem _ (List.mem_append_right _ h)) (by decide +kernel))
set_option maxRecDepth 20000 in
theorem gX1_amount_X1_billAt : GoodIn wsX1_amount (wsV RX1 77 RX1 yX1_billAt wsX1_billAt) := goodIn_app (goodIn_of _ (by decide +kernel)) ggX1_amount_X1_billAt
theorem dX1_amount_0 : decode cX1_amount 0 = .ok (.aload_n 0, 1) := by decide +kernel
theorem dX1_amount_1 : decode cX1_amount 1 = .ok (.iload_n 1, 1) := by decide +kernel
theorem dX1_amount_2 : decode cX1_amount 2 = .ok (.invokevirtual 77, 3) := by decide +kernel
theorem dX1_amount_5 : decode cX1_amount 5 = .ok (.getfield 94, 3) := by decide +kernel
theorem dX1_amount_8 : decode cX1_amount 8 = .ok (.ireturn, 1) := by decide +kernel
set_option maxRecDepth 20000 in
theorem ggX1_paid_X1_billAt : GoodIn wsX1_paid wsX1_billAt := goodIn_ca (goodIn_r _ [6, 7, 8, 9, 10, 11, 12, 13, 14, 15, 16, 17, 18, 19, 20, 21, 22, 23, 24, 25, 26, 27, 28, 29, 30, 31, 32, 33, 44, 45, 46, 47, 48, 49, 50, 51, 52, 53] (by decide +kernel) (by decide +kernel)) (goodIn_sub (fun _ h => List.mem_cons_of_mem _ (List.mem_append_right _ h)) (by decide +kernel))
set_option maxRecDepth 20000 in
theorem gX1_paid_X1_billAt : GoodIn wsX1_paid (wsV RX1 77 RX1 yX1_billAt wsX1_billAt) := goodIn_app (goodIn_of _ (by decide +kernel)) ggX1_paid_X1_billAt
theorem dX1_paid_0 : decode cX1_paid 0 = .ok (.aload_n 0, 1) := by decide +kernel
theorem dX1_paid_1 : decode cX1_paid 1 = .ok (.iload_n 1, 1) := by decide +kernel
theorem dX1_paid_2 : decode cX1_paid 2 = .ok (.invokevirtual 77, 3) := by decide +kernel
theorem dX1_paid_5 : decode cX1_paid 5 = .ok (.getfield 108, 3) := by decide +kernel
theorem dX1_paid_8 : decode cX1_paid 8 = .ok (.ireturn, 1) := by decide +kernel
set_option maxRecDepth 20000 in
theorem ggX1_heldBack_X1_billAt : GoodIn wsX1_heldBack wsX1_billAt := goodIn_ca (goodIn_r _ [6, 7, 8, 9, 10, 11, 12, 13, 14, 15, 16, 17, 18, 19, 20, 21, 22, 23, 24, 25, 26, 27, 28, 29, 30, 31, 32, 33, 44, 45, 46, 47, 48, 49, 50, 51, 52, 53] (by decide +kernel) (by decide +kernel)) (goodIn_sub (fun _ h => List.mem_cons_of_mem _ (List.mem_append_right _ h)) (by decide +kernel))
set_option maxRecDepth 20000 in
theorem gX1_heldBack_X1_billAt : GoodIn wsX1_heldBack (wsV RX1 77 RX1 yX1_billAt wsX1_billAt) := goodIn_app (goodIn_of _ (by decide +kernel)) ggX1_heldBack_X1_billAt
theorem dX1_heldBack_0 : decode cX1_heldBack 0 = .ok (.aload_n 0, 1) := by decide +kernel
theorem dX1_heldBack_1 : decode cX1_heldBack 1 = .ok (.iload_n 1, 1) := by decide +kernel
theorem dX1_heldBack_2 : decode cX1_heldBack 2 = .ok (.invokevirtual 77, 3) := by decide +kernel
theorem dX1_heldBack_5 : decode cX1_heldBack 5 = .ok (.getfield 111, 3) := by decide +kernel
theorem dX1_heldBack_8 : decode cX1_heldBack 8 = .ok (.ireturn, 1) := by decide +kernel
set_option maxRecDepth 20000 in
theorem ggX1_offer_X1_billAt : GoodIn wsX1_offer wsX1_billAt := goodIn_ca (goodIn_r _ [9, 10, 11, 12, 13, 14, 15, 16, 17, 18, 19, 20, 21, 22, 23, 24, 25, 26, 27, 28, 29, 30, 31, 32, 33, 34, 35, 36, 70, 71, 72, 73, 74, 75, 76, 77, 78, 79] (by decide +kernel) (by decide +kernel)) (goodIn_sub (fun _ h => List.mem_cons_of_mem _ (List.mem_append_left _ (List.mem_append_left _ (List.mem_append_right _ h)))) (by decide +kernel))
set_option maxRecDepth 20000 in
theorem gX1_offer_X1_billAt : GoodIn wsX1_offer (wsV RX1 77 RX1 yX1_billAt wsX1_billAt) := goodIn_app (goodIn_of _ (by decide +kernel)) ggX1_offer_X1_billAt
set_option maxRecDepth 20000 in
theorem ggX1_offer_X1_checkRange : GoodIn wsX1_offer wsX1_checkRange := goodIn_ca (goodIn_r _ [39, 40, 41] (by decide +kernel) (by decide +kernel)) (goodIn_sub (fun _ h => List.mem_cons_of_mem _ (List.mem_append_left _ (List.mem_append_right _ h))) (by decide +kernel))
set_option maxRecDepth 20000 in
theorem gX1_offer_X1_checkRange : GoodIn wsX1_offer (va_wsS RX1 48 yX1_checkRange wsX1_checkRange) := goodIn_app (goodIn_of _ (by decide +kernel)) ggX1_offer_X1_checkRange
set_option maxRecDepth 20000 in
theorem ggX1_offer_X1_checkPossible : GoodIn wsX1_offer wsX1_checkPossible := goodIn_ca (goodIn_r _ [44, 45, 46] (by decide +kernel) (by decide +kernel)) (goodIn_sub (fun _ h => List.mem_cons_of_mem _ (List.mem_append_right _ h)) (by decide +kernel))
set_option maxRecDepth 20000 in
theorem gX1_offer_X1_checkPossible : GoodIn wsX1_offer (va_wsS RX1 64 yX1_checkPossible wsX1_checkPossible) := goodIn_app (goodIn_of _ (by decide +kernel)) ggX1_offer_X1_checkPossible
set_option maxRecDepth 20000 in
theorem ggX1_offer_X0_priceOn : GoodIn wsX1_offer wsX0_priceOn := goodIn_r _ [51, 52, 53, 54, 55, 50, 56, 57, 58, 59, 60, 61, 62, 63, 64, 65, 66, 67, 68, 69] (by decide +kernel) (by decide +kernel)
set_option maxRecDepth 20000 in
theorem gX1_offer_X0_priceOn : GoodIn wsX1_offer (wsV RX1 114 RX0 yX0_priceOn wsX0_priceOn) := goodIn_app (goodIn_of _ (by decide +kernel)) ggX1_offer_X0_priceOn
theorem dX1_offer_0 : decode cX1_offer 0 = .ok (.aload_n 0, 1) := by decide +kernel
theorem dX1_offer_1 : decode cX1_offer 1 = .ok (.iload_n 1, 1) := by decide +kernel
theorem dX1_offer_2 : decode cX1_offer 2 = .ok (.invokevirtual 77, 3) := by decide +kernel
theorem dX1_offer_5 : decode cX1_offer 5 = .ok (.astore_n 3, 1) := by decide +kernel
theorem dX1_offer_6 : decode cX1_offer 6 = .ok (.iload_n 2, 1) := by decide +kernel
theorem dX1_offer_7 : decode cX1_offer 7 = .ok (.iconst 0, 1) := by decide +kernel
theorem dX1_offer_8 : decode cX1_offer 8 = .ok (.sipush 5000, 3) := by decide +kernel
theorem dX1_offer_11 : decode cX1_offer 11 = .ok (.invokestatic 48, 3) := by decide +kernel
theorem dX1_offer_14 : decode cX1_offer 14 = .ok (.aload_n 3, 1) := by decide +kernel
theorem dX1_offer_15 : decode cX1_offer 15 = .ok (.getfield 81, 3) := by decide +kernel
theorem dX1_offer_18 : decode cX1_offer 18 = .ok (.iconst 1, 1) := by decide +kernel
theorem dX1_offer_19 : decode cX1_offer 19 = .ok (.if_icmp .ne 18, 3) := by decide +kernel
theorem dX1_offer_22 : decode cX1_offer 22 = .ok (.aload_n 3, 1) := by decide +kernel
theorem dX1_offer_23 : decode cX1_offer 23 = .ok (.getfield 84, 3) := by decide +kernel
theorem dX1_offer_26 : decode cX1_offer 26 = .ok (.aload_n 0, 1) := by decide +kernel
theorem dX1_offer_27 : decode cX1_offer 27 = .ok (.getfield 26, 3) := by decide +kernel
theorem dX1_offer_30 : decode cX1_offer 30 = .ok (.if_icmp .le 7, 3) := by decide +kernel
theorem dX1_offer_33 : decode cX1_offer 33 = .ok (.iconst 1, 1) := by decide +kernel
theorem dX1_offer_34 : decode cX1_offer 34 = .ok (.goto 4, 3) := by decide +kernel
theorem dX1_offer_37 : decode cX1_offer 37 = .ok (.iconst 0, 1) := by decide +kernel
theorem dX1_offer_38 : decode cX1_offer 38 = .ok (.invokestatic 64, 3) := by decide +kernel
theorem dX1_offer_41 : decode cX1_offer 41 = .ok (.aload_n 3, 1) := by decide +kernel
theorem dX1_offer_42 : decode cX1_offer 42 = .ok (.iload_n 2, 1) := by decide +kernel
theorem dX1_offer_43 : decode cX1_offer 43 = .ok (.putfield 91, 3) := by decide +kernel
theorem dX1_offer_46 : decode cX1_offer 46 = .ok (.aload_n 3, 1) := by decide +kernel
theorem dX1_offer_47 : decode cX1_offer 47 = .ok (.aload_n 0, 1) := by decide +kernel
theorem dX1_offer_48 : decode cX1_offer 48 = .ok (.getfield 26, 3) := by decide +kernel
theorem dX1_offer_51 : decode cX1_offer 51 = .ok (.invokevirtual 114, 3) := by decide +kernel
theorem dX1_offer_54 : decode cX1_offer 54 = .ok (.ireturn, 1) := by decide +kernel
set_option maxRecDepth 20000 in
theorem ggX1_takeBack_X1_billAt : GoodIn wsX1_takeBack wsX1_billAt := goodIn_ca (goodIn_r _ [6, 7, 8, 9, 10, 11, 12, 13, 14, 15, 16, 17, 18, 19, 20, 21, 22, 23, 24, 25, 26, 27, 28, 29, 30, 31, 32, 33, 55, 56, 57, 58, 59, 60, 61, 62, 63, 64] (by decide +kernel) (by decide +kernel)) (goodIn_sub (fun _ h => List.mem_cons_of_mem _ (List.mem_append_left _ (List.mem_append_right _ h))) (by decide +kernel))
set_option maxRecDepth 20000 in
theorem gX1_takeBack_X1_billAt : GoodIn wsX1_takeBack (wsV RX1 77 RX1 yX1_billAt wsX1_billAt) := goodIn_app (goodIn_of _ (by decide +kernel)) ggX1_takeBack_X1_billAt
set_option maxRecDepth 20000 in
theorem ggX1_takeBack_X0_isPaid : GoodIn wsX1_takeBack wsX0_isPaid := goodIn_r _ [38, 39, 45, 46, 47, 48, 49, 50, 51, 52, 53, 54] (by decide +kernel) (by decide +kernel)
set_option maxRecDepth 20000 in
theorem gX1_takeBack_X0_isPaid : GoodIn wsX1_takeBack (wsV RX1 100 RX0 yX0_isPaid wsX0_isPaid) := goodIn_app (goodIn_of _ (by decide +kernel)) ggX1_takeBack_X0_isPaid
set_option maxRecDepth 20000 in
theorem ggX1_takeBack_X1_checkPossible : GoodIn wsX1_takeBack wsX1_checkPossible := goodIn_ca (goodIn_r _ [42, 43, 44] (by decide +kernel) (by decide +kernel)) (goodIn_sub (fun _ h => List.mem_cons_of_mem _ (List.mem_append_right _ h)) (by decide +kernel))
set_option maxRecDepth 20000 in
theorem gX1_takeBack_X1_checkPossible : GoodIn wsX1_takeBack (va_wsS RX1 64 yX1_checkPossible wsX1_checkPossible) := goodIn_app (goodIn_of _ (by decide +kernel)) ggX1_takeBack_X1_checkPossible
theorem dX1_takeBack_0 : decode cX1_takeBack 0 = .ok (.aload_n 0, 1) := by decide +kernel
theorem dX1_takeBack_1 : decode cX1_takeBack 1 = .ok (.iload_n 1, 1) := by decide +kernel
theorem dX1_takeBack_2 : decode cX1_takeBack 2 = .ok (.invokevirtual 77, 3) := by decide +kernel
theorem dX1_takeBack_5 : decode cX1_takeBack 5 = .ok (.astore_n 2, 1) := by decide +kernel
theorem dX1_takeBack_6 : decode cX1_takeBack 6 = .ok (.aload_n 2, 1) := by decide +kernel
theorem dX1_takeBack_7 : decode cX1_takeBack 7 = .ok (.getfield 91, 3) := by decide +kernel
theorem dX1_takeBack_10 : decode cX1_takeBack 10 = .ok (.iconst (-1), 1) := by decide +kernel
theorem dX1_takeBack_11 : decode cX1_takeBack 11 = .ok (.if_icmp .eq 14, 3) := by decide +kernel
theorem dX1_takeBack_14 : decode cX1_takeBack 14 = .ok (.aload_n 2, 1) := by decide +kernel
theorem dX1_takeBack_15 : decode cX1_takeBack 15 = .ok (.invokevirtual 100, 3) := by decide +kernel
theorem dX1_takeBack_18 : decode cX1_takeBack 18 = .ok (.ifCond .ne 7, 3) := by decide +kernel
theorem dX1_takeBack_21 : decode cX1_takeBack 21 = .ok (.iconst 1, 1) := by decide +kernel
theorem dX1_takeBack_22 : decode cX1_takeBack 22 = .ok (.goto 4, 3) := by decide +kernel
theorem dX1_takeBack_25 : decode cX1_takeBack 25 = .ok (.iconst 0, 1) := by decide +kernel
theorem dX1_takeBack_26 : decode cX1_takeBack 26 = .ok (.invokestatic 64, 3) := by decide +kernel
theorem dX1_takeBack_29 : decode cX1_takeBack 29 = .ok (.aload_n 2, 1) := by decide +kernel
theorem dX1_takeBack_30 : decode cX1_takeBack 30 = .ok (.getfield 91, 3) := by decide +kernel
theorem dX1_takeBack_33 : decode cX1_takeBack 33 = .ok (.istore_n 3, 1) := by decide +kernel
theorem dX1_takeBack_34 : decode cX1_takeBack 34 = .ok (.aload_n 2, 1) := by decide +kernel
theorem dX1_takeBack_35 : decode cX1_takeBack 35 = .ok (.iconst (-1), 1) := by decide +kernel
theorem dX1_takeBack_36 : decode cX1_takeBack 36 = .ok (.putfield 91, 3) := by decide +kernel
theorem dX1_takeBack_39 : decode cX1_takeBack 39 = .ok (.iload_n 3, 1) := by decide +kernel
theorem dX1_takeBack_40 : decode cX1_takeBack 40 = .ok (.ireturn, 1) := by decide +kernel
set_option maxRecDepth 20000 in
theorem ggX1_plan_X1_checkBuyer : GoodIn wsX1_plan wsX1_checkBuyer := goodIn_ca (goodIn_r _ [4, 5, 6] (by decide +kernel) (by decide +kernel)) (goodIn_sub (fun _ h => List.mem_cons_of_mem _ (List.mem_append_right _ h)) (by decide +kernel))
set_option maxRecDepth 20000 in
theorem gX1_plan_X1_checkBuyer : GoodIn wsX1_plan (va_wsS RX1 43 yX1_checkBuyer wsX1_checkBuyer) := goodIn_app (goodIn_of _ (by decide +kernel)) ggX1_plan_X1_checkBuyer
set_option maxRecDepth 20000 in
theorem ggX1_plan_X1_gatherOffers : GoodIn wsX1_plan wsX1_gatherOffers := goodIn_r _ [10, 11, 12, 13, 14, 15, 16, 17, 18, 19, 20, 21, 22, 23, 24, 25, 26, 27, 28, 29, 30, 31, 32, 33, 34, 35, 36, 37, 38, 39, 40, 41, 42, 43, 44, 45, 46, 47, 48, 49, 50, 51, 52, 53, 54, 55, 56, 3, 57, 58, 59, 60, 61, 62, 63, 64, 65, 66, 67, 68, 69, 70, 71, 72, 73, 74, 75, 76, 77, 78, 79, 80, 81, 82, 83, 84, 85, 86, 87, 88, 89, 90, 91, 92, 93, 94, 95, 96, 97, 98, 99, 100, 101, 102, 103, 104, 105, 106, 107, 108, 109, 150, 151, 152, 153, 154, 155, 156, 157, 158, 159, 160, 161, 162, 163, 164, 165, 166, 167, 168, 169] (by decide +kernel) (by decide +kernel)
set_option maxRecDepth 20000 in
theorem gX1_plan_X1_gatherOffers : GoodIn wsX1_plan (wsV RX1 118 RX1 yX1_gatherOffers wsX1_gatherOffers) := goodIn_app (goodIn_of _ (by decide +kernel)) ggX1_plan_X1_gatherOffers
set_option maxRecDepth 20000 in
theorem ggX1_plan_X1_acceptedOf : GoodIn wsX1_plan wsX1_acceptedOf := goodIn_ca (goodIn_r _ [113, 114, 11, 13, 15, 115, 116, 117, 118, 119, 120, 3, 121, 122, 123, 124, 125, 126, 127, 128, 129, 1, 2, 4, 5, 6, 130, 131, 132, 133, 134, 135, 136, 12, 14, 137, 138, 139, 26, 27, 28, 20, 29, 25, 30, 31, 32, 33, 34, 35, 36, 37, 38, 39, 40, 41, 42, 43, 44, 45, 24, 140, 141, 142, 49, 143, 144, 145, 146, 147, 148, 53, 52, 149, 150, 151, 152, 153, 154, 155, 156, 157, 158, 159, 160, 161, 162, 163, 164, 165, 166, 167, 168, 169] (by decide +kernel) (by decide +kernel)) (goodIn_sub (fun _ h => List.mem_cons_of_mem _ (List.mem_append_right _ h)) (by decide +kernel))
set_option maxRecDepth 20000 in
theorem gX1_plan_X1_acceptedOf : GoodIn wsX1_plan (wsV RX1 121 RX1 yX1_acceptedOf wsX1_acceptedOf) := goodIn_app (goodIn_of _ (by decide +kernel)) ggX1_plan_X1_acceptedOf
theorem dX1_plan_0 : decode cX1_plan 0 = .ok (.iload_n 1, 1) := by decide +kernel
theorem dX1_plan_1 : decode cX1_plan 1 = .ok (.invokestatic 43, 3) := by decide +kernel
theorem dX1_plan_4 : decode cX1_plan 4 = .ok (.aload_n 0, 1) := by decide +kernel
theorem dX1_plan_5 : decode cX1_plan 5 = .ok (.iload_n 1, 1) := by decide +kernel
theorem dX1_plan_6 : decode cX1_plan 6 = .ok (.invokevirtual 118, 3) := by decide +kernel
theorem dX1_plan_9 : decode cX1_plan 9 = .ok (.aload_n 0, 1) := by decide +kernel
theorem dX1_plan_10 : decode cX1_plan 10 = .ok (.iload_n 1, 1) := by decide +kernel
theorem dX1_plan_11 : decode cX1_plan 11 = .ok (.invokevirtual 121, 3) := by decide +kernel
theorem dX1_plan_14 : decode cX1_plan 14 = .ok (.ireturn, 1) := by decide +kernel
set_option maxRecDepth 20000 in
theorem ggX1_clear_X1_checkBuyer : GoodIn wsX1_clear wsX1_checkBuyer := goodIn_ca (goodIn_r _ [8, 9, 10] (by decide +kernel) (by decide +kernel)) (goodIn_sub (fun _ h => List.mem_cons_of_mem _ (List.mem_append_right _ h)) (by decide +kernel))
set_option maxRecDepth 20000 in
theorem gX1_clear_X1_checkBuyer : GoodIn wsX1_clear (va_wsS RX1 43 yX1_checkBuyer wsX1_checkBuyer) := goodIn_app (goodIn_of _ (by decide +kernel)) ggX1_clear_X1_checkBuyer
set_option maxRecDepth 20000 in
theorem ggX1_clear_X1_gatherOffers : GoodIn wsX1_clear wsX1_gatherOffers := goodIn_r _ [14, 1, 15, 2, 16, 4, 17, 18, 19, 20, 21, 22, 23, 24, 25, 26, 27, 28, 29, 30, 31, 32, 33, 34, 35, 36, 37, 38, 39, 40, 41, 42, 43, 44, 45, 46, 47, 48, 49, 50, 51, 52, 53, 54, 55, 56, 57, 7, 58, 59, 60, 61, 62, 63, 64, 65, 66, 67, 68, 69, 70, 71, 72, 73, 74, 75, 76, 77, 78, 79, 80, 81, 82, 83, 84, 85, 86, 87, 88, 89, 90, 91, 92, 93, 94, 95, 96, 97, 98, 99, 100, 101, 102, 103, 104, 105, 106, 107, 108, 109, 110, 162, 163, 164, 165, 166, 167, 168, 169, 170, 171, 172, 173, 174, 175, 176, 177, 178, 179, 180, 181] (by decide +kernel) (by decide +kernel)
set_option maxRecDepth 20000 in
theorem gX1_clear_X1_gatherOffers : GoodIn wsX1_clear (wsV RX1 118 RX1 yX1_gatherOffers wsX1_gatherOffers) := goodIn_app (goodIn_of _ (by decide +kernel)) ggX1_clear_X1_gatherOffers
set_option maxRecDepth 20000 in
theorem ggX1_clear_X1_acceptedOf : GoodIn wsX1_clear wsX1_acceptedOf := goodIn_ca (goodIn_r _ [114, 115, 1, 2, 4, 116, 117, 3, 118, 119, 120, 7, 121, 122, 123, 124, 125, 126, 127, 128, 129, 5, 6, 8, 9, 10, 130, 131, 132, 133, 134, 135, 136, 15, 16, 137, 138, 139, 27, 28, 29, 21, 30, 26, 31, 32, 33, 34, 35, 36, 37, 38, 39, 40, 41, 42, 43, 44, 45, 46, 25, 140, 141, 142, 50, 143, 144, 145, 146, 147, 148, 54, 53, 149, 162, 163, 164, 165, 166, 167, 168, 169, 170, 171, 172, 173, 174, 175, 176, 177, 178, 179, 180, 181] (by decide +kernel) (by decide +kernel)) (goodIn_sub (fun _ h => List.mem_cons_of_mem _ (List.mem_append_right _ h)) (by decide +kernel))
set_option maxRecDepth 20000 in
theorem gX1_clear_X1_acceptedOf : GoodIn wsX1_clear (wsV RX1 121 RX1 yX1_acceptedOf wsX1_acceptedOf) := goodIn_app (goodIn_of _ (by decide +kernel)) ggX1_clear_X1_acceptedOf
set_option maxRecDepth 20000 in
theorem ggX1_clear_Jx4a65c_size_8abf5 : GoodIn wsX1_clear wsJx4a65c_size_8abf5 := goodIn_r _ [30, 26, 179, 180, 181] (by decide +kernel) (by decide +kernel)
set_option maxRecDepth 20000 in
theorem gX1_clear_Jx4a65c_size_8abf5 : GoodIn wsX1_clear (wsV RX1 60 RJx4a65c yJx4a65c_size_8abf5 wsJx4a65c_size_8abf5) := goodIn_app (goodIn_of _ (by decide +kernel)) ggX1_clear_Jx4a65c_size_8abf5
set_option maxRecDepth 20000 in
theorem ggX1_clear_Jx4a65c_get_915e3 : GoodIn wsX1_clear wsJx4a65c_get_915e3 := goodIn_r _ [34, 26, 35, 36, 37, 38, 39, 40, 41, 42, 43, 44, 45, 21, 46, 25, 179, 180, 181] (by decide +kernel) (by decide +kernel)
set_option maxRecDepth 20000 in
theorem gX1_clear_Jx4a65c_get_915e3 : GoodIn wsX1_clear (wsV RX1 124 RJx4a65c yJx4a65c_get_915e3 wsJx4a65c_get_915e3) := goodIn_app (goodIn_of _ (by decide +kernel)) ggX1_clear_Jx4a65c_get_915e3
set_option maxRecDepth 20000 in
theorem ggX1_clear_X0_discountOn : GoodIn wsX1_clear wsX0_discountOn := goodIn_r _ [148, 144, 54, 53, 149, 169, 170, 171, 172, 173, 174, 175, 176, 177, 178] (by decide +kernel) (by decide +kernel)
set_option maxRecDepth 20000 in
theorem gX1_clear_X0_discountOn : GoodIn wsX1_clear (wsV RX1 131 RX0 yX0_discountOn wsX0_discountOn) := goodIn_app (goodIn_of _ (by decide +kernel)) ggX1_clear_X0_discountOn
set_option maxRecDepth 20000 in
theorem ggX1_clear_X1_payEarly : GoodIn wsX1_clear wsX1_payEarly := goodIn_ca (goodIn_r _ [154, 4, 137, 115, 16, 140, 141, 142, 50, 143, 144, 145, 146, 147, 148, 54, 53, 149, 155, 156, 157, 7, 158, 117, 159, 160, 108, 82, 109, 139, 161, 127, 128, 129, 5, 6, 8, 9, 10, 130, 131, 132, 162, 163, 164, 165, 166, 167, 168, 169, 170, 171, 172, 173, 174, 175, 176, 177, 178] (by decide +kernel) (by decide +kernel)) (goodIn_sub (fun _ h => List.mem_cons_of_mem _ (List.mem_append_right _ h)) (by decide +kernel))
set_option maxRecDepth 20000 in
theorem gX1_clear_X1_payEarly : GoodIn wsX1_clear (wsV RX1 134 RX1 yX1_payEarly wsX1_payEarly) := goodIn_app (goodIn_of _ (by decide +kernel)) ggX1_clear_X1_payEarly
theorem dX1_clear_0 : decode cX1_clear 0 = .ok (.iload_n 1, 1) := by decide +kernel
theorem dX1_clear_1 : decode cX1_clear 1 = .ok (.invokestatic 43, 3) := by decide +kernel
theorem dX1_clear_4 : decode cX1_clear 4 = .ok (.aload_n 0, 1) := by decide +kernel
theorem dX1_clear_5 : decode cX1_clear 5 = .ok (.iload_n 1, 1) := by decide +kernel
theorem dX1_clear_6 : decode cX1_clear 6 = .ok (.invokevirtual 118, 3) := by decide +kernel
theorem dX1_clear_9 : decode cX1_clear 9 = .ok (.aload_n 0, 1) := by decide +kernel
theorem dX1_clear_10 : decode cX1_clear 10 = .ok (.iload_n 1, 1) := by decide +kernel
theorem dX1_clear_11 : decode cX1_clear 11 = .ok (.invokevirtual 121, 3) := by decide +kernel
theorem dX1_clear_14 : decode cX1_clear 14 = .ok (.istore_n 2, 1) := by decide +kernel
theorem dX1_clear_15 : decode cX1_clear 15 = .ok (.iconst 0, 1) := by decide +kernel
theorem dX1_clear_16 : decode cX1_clear 16 = .ok (.istore_n 3, 1) := by decide +kernel
theorem dX1_clear_17 : decode cX1_clear 17 = .ok (.iconst 0, 1) := by decide +kernel
theorem dX1_clear_18 : decode cX1_clear 18 = .ok (.istore 4, 2) := by decide +kernel
theorem dX1_clear_20 : decode cX1_clear 20 = .ok (.iload 4, 2) := by decide +kernel
theorem dX1_clear_22 : decode cX1_clear 22 = .ok (.aload_n 0, 1) := by decide +kernel
theorem dX1_clear_23 : decode cX1_clear 23 = .ok (.getfield 30, 3) := by decide +kernel
theorem dX1_clear_26 : decode cX1_clear 26 = .ok (.invokevirtual 60, 3) := by decide +kernel
theorem dX1_clear_29 : decode cX1_clear 29 = .ok (.if_icmp .ge 53, 3) := by decide +kernel
theorem dX1_clear_32 : decode cX1_clear 32 = .ok (.aload_n 0, 1) := by decide +kernel
theorem dX1_clear_33 : decode cX1_clear 33 = .ok (.getfield 30, 3) := by decide +kernel
theorem dX1_clear_36 : decode cX1_clear 36 = .ok (.iload 4, 2) := by decide +kernel
theorem dX1_clear_38 : decode cX1_clear 38 = .ok (.invokevirtual 124, 3) := by decide +kernel
theorem dX1_clear_41 : decode cX1_clear 41 = .ok (.checkcast 68, 3) := by decide +kernel
theorem dX1_clear_44 : decode cX1_clear 44 = .ok (.astore 5, 2) := by decide +kernel
theorem dX1_clear_46 : decode cX1_clear 46 = .ok (.iload_n 2, 1) := by decide +kernel
theorem dX1_clear_47 : decode cX1_clear 47 = .ok (.iconst 1, 1) := by decide +kernel
theorem dX1_clear_48 : decode cX1_clear 48 = .ok (.aload 5, 2) := by decide +kernel
theorem dX1_clear_50 : decode cX1_clear 50 = .ok (.getfield 128, 3) := by decide +kernel
theorem dX1_clear_53 : decode cX1_clear 53 = .ok (.ishl, 1) := by decide +kernel
