theorem dX1_clear_54 : decode cX1_clear 54 = .ok (.iand, 1) := by decide +kernel
theorem dX1_clear_55 : decode cX1_clear 55 = .ok (.ifCond .eq 21, 3) := by decide +kernel
theorem dX1_clear_58 : decode cX1_clear 58 = .ok (.iload_n 3, 1) := by decide +kernel
theorem dX1_clear_59 : decode cX1_clear 59 = .ok (.aload 5, 2) := by decide +kernel
theorem dX1_clear_61 : decode cX1_clear 61 = .ok (.aload_n 0, 1) := by decide +kernel
theorem dX1_clear_62 : decode cX1_clear 62 = .ok (.getfield 26, 3) := by decide +kernel
theorem dX1_clear_65 : decode cX1_clear 65 = .ok (.invokevirtual 131, 3) := by decide +kernel
theorem dX1_clear_68 : decode cX1_clear 68 = .ok (.iadd, 1) := by decide +kernel
theorem dX1_clear_69 : decode cX1_clear 69 = .ok (.istore_n 3, 1) := by decide +kernel
theorem dX1_clear_70 : decode cX1_clear 70 = .ok (.aload_n 0, 1) := by decide +kernel
theorem dX1_clear_71 : decode cX1_clear 71 = .ok (.aload 5, 2) := by decide +kernel
theorem dX1_clear_73 : decode cX1_clear 73 = .ok (.invokevirtual 134, 3) := by decide +kernel
theorem dX1_clear_76 : decode cX1_clear 76 = .ok (.iinc 4 1, 3) := by decide +kernel
theorem dX1_clear_79 : decode cX1_clear 79 = .ok (.goto (-59), 3) := by decide +kernel
theorem dX1_clear_82 : decode cX1_clear 82 = .ok (.iload_n 3, 1) := by decide +kernel
theorem dX1_clear_83 : decode cX1_clear 83 = .ok (.ireturn, 1) := by decide +kernel
set_option maxRecDepth 20000 in
theorem ggX1_most_X1_checkBuyer : GoodIn wsX1_most wsX1_checkBuyer := goodIn_ca (goodIn_r _ [9, 10, 11] (by decide +kernel) (by decide +kernel)) (goodIn_sub (fun _ h => List.mem_cons_of_mem _ (List.mem_append_left _ (List.mem_append_right _ h))) (by decide +kernel))
set_option maxRecDepth 20000 in
theorem gX1_most_X1_checkBuyer : GoodIn wsX1_most (va_wsS RX1 43 yX1_checkBuyer wsX1_checkBuyer) := goodIn_app (goodIn_of _ (by decide +kernel)) ggX1_most_X1_checkBuyer
set_option maxRecDepth 20000 in
theorem ggX1_most_X1_gatherOffers : GoodIn wsX1_most wsX1_gatherOffers := goodIn_r _ [15, 1, 16, 2, 17, 3, 18, 19, 20, 21, 22, 23, 24, 25, 26, 27, 28, 29, 30, 31, 32, 33, 34, 35, 36, 37, 38, 39, 40, 41, 42, 43, 44, 45, 46, 47, 48, 49, 50, 51, 52, 53, 54, 55, 56, 57, 58, 8, 59, 60, 61, 62, 63, 64, 65, 66, 67, 68, 69, 70, 71, 72, 73, 74, 75, 76, 77, 78, 79, 80, 81, 82, 83, 84, 85, 86, 87, 88, 89, 90, 91, 92, 93, 94, 95, 96, 97, 98, 99, 100, 101, 102, 103, 104, 105, 106, 107, 108, 109, 110, 111, 155, 156, 157, 158, 159, 160, 161, 162, 163, 164, 165, 166, 167, 168, 169, 170, 171, 172, 173, 174] (by decide +kernel) (by decide +kernel)
set_option maxRecDepth 20000 in
theorem gX1_most_X1_gatherOffers : GoodIn wsX1_most (wsV RX1 118 RX1 yX1_gatherOffers wsX1_gatherOffers) := goodIn_app (goodIn_of _ (by decide +kernel)) ggX1_most_X1_gatherOffers
set_option maxRecDepth 20000 in
theorem ggX1_most_Jx4a65c_size_8abf5 : GoodIn wsX1_most wsJx4a65c_size_8abf5 := goodIn_r _ [31, 27, 172, 173, 174] (by decide +kernel) (by decide +kernel)
set_option maxRecDepth 20000 in
theorem gX1_most_Jx4a65c_size_8abf5 : GoodIn wsX1_most (wsV RX1 60 RJx4a65c yJx4a65c_size_8abf5 wsJx4a65c_size_8abf5) := goodIn_app (goodIn_of _ (by decide +kernel)) ggX1_most_Jx4a65c_size_8abf5
set_option maxRecDepth 20000 in
theorem ggX1_most_X1_checkPossible : GoodIn wsX1_most wsX1_checkPossible := goodIn_ca (goodIn_r _ [114, 115, 116] (by decide +kernel) (by decide +kernel)) (goodIn_sub (fun _ h => List.mem_cons_of_mem _ (List.mem_append_right _ h)) (by decide +kernel))
set_option maxRecDepth 20000 in
theorem gX1_most_X1_checkPossible : GoodIn wsX1_most (va_wsS RX1 64 yX1_checkPossible wsX1_checkPossible) := goodIn_app (goodIn_of _ (by decide +kernel)) ggX1_most_X1_checkPossible
set_option maxRecDepth 20000 in
theorem ggX1_most_X1_measureRoom : GoodIn wsX1_most wsX1_measureRoom := goodIn_ca (goodIn_r _ [120, 5, 121, 122, 123, 8, 124, 125, 126, 127, 128, 6, 7, 9, 10, 11, 129, 130, 131, 132, 133, 134, 135, 16, 2, 17, 136, 137, 138, 3, 139, 28, 29, 30, 22, 31, 27, 32, 33, 34, 35, 36, 37, 38, 39, 40, 41, 42, 43, 44, 45, 46, 47, 26, 155, 156, 157, 158, 159, 160, 161, 162, 163, 164, 165, 166, 167, 168, 169, 170, 171, 172, 173, 174] (by decide +kernel) (by decide +kernel)) (goodIn_sub (fun _ h => List.mem_cons_of_mem _ (List.mem_append_left _ (List.mem_append_right _ h))) (by decide +kernel))
set_option maxRecDepth 20000 in
theorem gX1_most_X1_measureRoom : GoodIn wsX1_most (wsV RX1 137 RX1 yX1_measureRoom wsX1_measureRoom) := goodIn_app (goodIn_of _ (by decide +kernel)) ggX1_most_X1_measureRoom
set_option maxRecDepth 20000 in
theorem ggX1_most_Jx4a65c_get_915e3 : GoodIn wsX1_most wsJx4a65c_get_915e3 := goodIn_r _ [35, 27, 36, 37, 38, 39, 40, 41, 42, 43, 44, 45, 46, 22, 47, 26, 172, 173, 174] (by decide +kernel) (by decide +kernel)
set_option maxRecDepth 20000 in
theorem gX1_most_Jx4a65c_get_915e3 : GoodIn wsX1_most (wsV RX1 124 RJx4a65c yJx4a65c_get_915e3 wsJx4a65c_get_915e3) := goodIn_app (goodIn_of _ (by decide +kernel)) ggX1_most_Jx4a65c_get_915e3
set_option maxRecDepth 20000 in
theorem ggX1_most_X0_discountOn : GoodIn wsX1_most wsX0_discountOn := goodIn_r _ [143, 144, 55, 54, 145, 162, 163, 164, 165, 166, 167, 168, 169, 170, 171] (by decide +kernel) (by decide +kernel)
set_option maxRecDepth 20000 in
theorem gX1_most_X0_discountOn : GoodIn wsX1_most (wsV RX1 131 RX0 yX0_discountOn wsX0_discountOn) := goodIn_app (goodIn_of _ (by decide +kernel)) ggX1_most_X0_discountOn
set_option maxRecDepth 20000 in
theorem ggX1_most_X1_bestFrom : GoodIn wsX1_most wsX1_bestFrom := goodIn_r _ [148, 2, 136, 149, 82, 83, 84, 28, 29, 30, 22, 31, 27, 32, 33, 34, 35, 36, 37, 38, 39, 40, 41, 42, 43, 44, 45, 46, 47, 26, 140, 141, 142, 51, 143, 144, 55, 54, 145, 150, 151, 152, 153, 154, 146, 147, 8, 162, 163, 164, 165, 166, 167, 168, 169, 170, 171, 172, 173, 174] (by decide +kernel) (by decide +kernel)
set_option maxRecDepth 20000 in
theorem gX1_most_X1_bestFrom : GoodIn wsX1_most (va_wsS RX1 140 yX1_bestFrom wsX1_bestFrom) := goodIn_app (goodIn_of _ (by decide +kernel)) ggX1_most_X1_bestFrom
theorem dX1_most_0 : decode cX1_most 0 = .ok (.iload_n 1, 1) := by decide +kernel
theorem dX1_most_1 : decode cX1_most 1 = .ok (.invokestatic 43, 3) := by decide +kernel
theorem dX1_most_4 : decode cX1_most 4 = .ok (.aload_n 0, 1) := by decide +kernel
theorem dX1_most_5 : decode cX1_most 5 = .ok (.iload_n 1, 1) := by decide +kernel
theorem dX1_most_6 : decode cX1_most 6 = .ok (.invokevirtual 118, 3) := by decide +kernel
theorem dX1_most_9 : decode cX1_most 9 = .ok (.aload_n 0, 1) := by decide +kernel
theorem dX1_most_10 : decode cX1_most 10 = .ok (.getfield 30, 3) := by decide +kernel
theorem dX1_most_13 : decode cX1_most 13 = .ok (.invokevirtual 60, 3) := by decide +kernel
theorem dX1_most_16 : decode cX1_most 16 = .ok (.bipush 12, 2) := by decide +kernel
theorem dX1_most_18 : decode cX1_most 18 = .ok (.if_icmp .gt 7, 3) := by decide +kernel
theorem dX1_most_21 : decode cX1_most 21 = .ok (.iconst 1, 1) := by decide +kernel
theorem dX1_most_22 : decode cX1_most 22 = .ok (.goto 4, 3) := by decide +kernel
theorem dX1_most_25 : decode cX1_most 25 = .ok (.iconst 0, 1) := by decide +kernel
theorem dX1_most_26 : decode cX1_most 26 = .ok (.invokestatic 64, 3) := by decide +kernel
theorem dX1_most_29 : decode cX1_most 29 = .ok (.aload_n 0, 1) := by decide +kernel
theorem dX1_most_30 : decode cX1_most 30 = .ok (.iload_n 1, 1) := by decide +kernel
theorem dX1_most_31 : decode cX1_most 31 = .ok (.invokevirtual 137, 3) := by decide +kernel
theorem dX1_most_34 : decode cX1_most 34 = .ok (.iconst 0, 1) := by decide +kernel
theorem dX1_most_35 : decode cX1_most 35 = .ok (.istore_n 2, 1) := by decide +kernel
theorem dX1_most_36 : decode cX1_most 36 = .ok (.iconst 0, 1) := by decide +kernel
theorem dX1_most_37 : decode cX1_most 37 = .ok (.istore_n 3, 1) := by decide +kernel
theorem dX1_most_38 : decode cX1_most 38 = .ok (.iload_n 3, 1) := by decide +kernel
theorem dX1_most_39 : decode cX1_most 39 = .ok (.aload_n 0, 1) := by decide +kernel
theorem dX1_most_40 : decode cX1_most 40 = .ok (.getfield 30, 3) := by decide +kernel
theorem dX1_most_43 : decode cX1_most 43 = .ok (.invokevirtual 60, 3) := by decide +kernel
theorem dX1_most_46 : decode cX1_most 46 = .ok (.if_icmp .ge 30, 3) := by decide +kernel
theorem dX1_most_49 : decode cX1_most 49 = .ok (.iload_n 2, 1) := by decide +kernel
theorem dX1_most_50 : decode cX1_most 50 = .ok (.aload_n 0, 1) := by decide +kernel
theorem dX1_most_51 : decode cX1_most 51 = .ok (.getfield 30, 3) := by decide +kernel
theorem dX1_most_54 : decode cX1_most 54 = .ok (.iload_n 3, 1) := by decide +kernel
theorem dX1_most_55 : decode cX1_most 55 = .ok (.invokevirtual 124, 3) := by decide +kernel
theorem dX1_most_58 : decode cX1_most 58 = .ok (.checkcast 68, 3) := by decide +kernel
theorem dX1_most_61 : decode cX1_most 61 = .ok (.aload_n 0, 1) := by decide +kernel
theorem dX1_most_62 : decode cX1_most 62 = .ok (.getfield 26, 3) := by decide +kernel
theorem dX1_most_65 : decode cX1_most 65 = .ok (.invokevirtual 131, 3) := by decide +kernel
theorem dX1_most_68 : decode cX1_most 68 = .ok (.iadd, 1) := by decide +kernel
theorem dX1_most_69 : decode cX1_most 69 = .ok (.istore_n 2, 1) := by decide +kernel
theorem dX1_most_70 : decode cX1_most 70 = .ok (.iinc 3 1, 3) := by decide +kernel
theorem dX1_most_73 : decode cX1_most 73 = .ok (.goto (-35), 3) := by decide +kernel
theorem dX1_most_76 : decode cX1_most 76 = .ok (.aload_n 0, 1) := by decide +kernel
theorem dX1_most_77 : decode cX1_most 77 = .ok (.getfield 30, 3) := by decide +kernel
theorem dX1_most_80 : decode cX1_most 80 = .ok (.iconst 0, 1) := by decide +kernel
theorem dX1_most_81 : decode cX1_most 81 = .ok (.aload_n 0, 1) := by decide +kernel
theorem dX1_most_82 : decode cX1_most 82 = .ok (.getfield 26, 3) := by decide +kernel
theorem dX1_most_85 : decode cX1_most 85 = .ok (.aload_n 0, 1) := by decide +kernel
theorem dX1_most_86 : decode cX1_most 86 = .ok (.getfield 9, 3) := by decide +kernel
theorem dX1_most_89 : decode cX1_most 89 = .ok (.iload_n 1, 1) := by decide +kernel
theorem dX1_most_90 : decode cX1_most 90 = .ok (.iaload, 1) := by decide +kernel
theorem dX1_most_91 : decode cX1_most 91 = .ok (.aload_n 0, 1) := by decide +kernel
theorem dX1_most_92 : decode cX1_most 92 = .ok (.getfield 33, 3) := by decide +kernel
theorem dX1_most_95 : decode cX1_most 95 = .ok (.iload_n 2, 1) := by decide +kernel
theorem dX1_most_96 : decode cX1_most 96 = .ok (.invokestatic 140, 3) := by decide +kernel
theorem dX1_most_99 : decode cX1_most 99 = .ok (.ireturn, 1) := by decide +kernel
set_option maxRecDepth 20000 in
theorem ggX1_left_X1_pairOf : GoodIn wsX1_left wsX1_pairOf := goodIn_ca (goodIn_r _ [5, 6, 7, 4, 8, 9, 10, 11, 12, 13] (by decide +kernel) (by decide +kernel)) (goodIn_sub (fun _ h => List.mem_cons_of_mem _ (List.mem_append_right _ h)) (by decide +kernel))
set_option maxRecDepth 20000 in
theorem gX1_left_X1_pairOf : GoodIn wsX1_left (va_wsS RX1 52 yX1_pairOf wsX1_pairOf) := goodIn_app (goodIn_of _ (by decide +kernel)) ggX1_left_X1_pairOf
set_option maxRecDepth 20000 in
theorem ggX1_left_X1_pricesThatCount : GoodIn wsX1_left wsX1_pricesThatCount := goodIn_r _ [17, 18, 19, 20, 21, 22, 23, 24, 25, 26, 27, 28, 29, 30, 31, 32, 33, 34, 35, 36, 37, 38, 39, 40, 41, 42, 43, 44, 45, 46, 47, 48, 49, 50, 51, 52, 53, 54, 55, 56, 57, 58, 59, 60, 61, 62, 63, 64, 65, 66, 67, 68] (by decide +kernel) (by decide +kernel)
set_option maxRecDepth 20000 in
theorem gX1_left_X1_pricesThatCount : GoodIn wsX1_left (wsV RX1 144 RX1 yX1_pricesThatCount wsX1_pricesThatCount) := goodIn_app (goodIn_of _ (by decide +kernel)) ggX1_left_X1_pricesThatCount
theorem dX1_left_0 : decode cX1_left 0 = .ok (.iload_n 1, 1) := by decide +kernel
theorem dX1_left_1 : decode cX1_left 1 = .ok (.iload_n 2, 1) := by decide +kernel
theorem dX1_left_2 : decode cX1_left 2 = .ok (.invokestatic 52, 3) := by decide +kernel
theorem dX1_left_5 : decode cX1_left 5 = .ok (.istore_n 3, 1) := by decide +kernel
theorem dX1_left_6 : decode cX1_left 6 = .ok (.aload_n 0, 1) := by decide +kernel
theorem dX1_left_7 : decode cX1_left 7 = .ok (.getfield 13, 3) := by decide +kernel
theorem dX1_left_10 : decode cX1_left 10 = .ok (.iload_n 3, 1) := by decide +kernel
theorem dX1_left_11 : decode cX1_left 11 = .ok (.iaload, 1) := by decide +kernel
theorem dX1_left_12 : decode cX1_left 12 = .ok (.aload_n 0, 1) := by decide +kernel
theorem dX1_left_13 : decode cX1_left 13 = .ok (.iload_n 1, 1) := by decide +kernel
theorem dX1_left_14 : decode cX1_left 14 = .ok (.iload_n 2, 1) := by decide +kernel
theorem dX1_left_15 : decode cX1_left 15 = .ok (.invokevirtual 144, 3) := by decide +kernel
theorem dX1_left_18 : decode cX1_left 18 = .ok (.isub, 1) := by decide +kernel
theorem dX1_left_19 : decode cX1_left 19 = .ok (.ireturn, 1) := by decide +kernel
set_option maxRecDepth 20000 in
theorem ggX1_claim_X1_pairOf : GoodIn wsX1_claim wsX1_pairOf := goodIn_ca (goodIn_r _ [5, 6, 7, 4, 8, 9, 10, 11, 12, 13] (by decide +kernel) (by decide +kernel)) (goodIn_sub (fun _ h => List.mem_cons_of_mem _ (List.mem_append_right _ h)) (by decide +kernel))
set_option maxRecDepth 20000 in
theorem gX1_claim_X1_pairOf : GoodIn wsX1_claim (va_wsS RX1 52 yX1_pairOf wsX1_pairOf) := goodIn_app (goodIn_of _ (by decide +kernel)) ggX1_claim_X1_pairOf
theorem dX1_claim_0 : decode cX1_claim 0 = .ok (.aload_n 0, 1) := by decide +kernel
theorem dX1_claim_1 : decode cX1_claim 1 = .ok (.getfield 16, 3) := by decide +kernel
theorem dX1_claim_4 : decode cX1_claim 4 = .ok (.iload_n 1, 1) := by decide +kernel
theorem dX1_claim_5 : decode cX1_claim 5 = .ok (.iload_n 2, 1) := by decide +kernel
theorem dX1_claim_6 : decode cX1_claim 6 = .ok (.invokestatic 52, 3) := by decide +kernel
theorem dX1_claim_9 : decode cX1_claim 9 = .ok (.iaload, 1) := by decide +kernel
theorem dX1_claim_10 : decode cX1_claim 10 = .ok (.ireturn, 1) := by decide +kernel
set_option maxRecDepth 20000 in
theorem ggX1_averageDiscount_X1_checkBuyer : GoodIn wsX1_averageDiscount wsX1_checkBuyer := goodIn_ca (goodIn_r _ [10, 11, 12] (by decide +kernel) (by decide +kernel)) (goodIn_sub (fun _ h => List.mem_cons_of_mem _ (List.mem_append_left _ (List.mem_append_right _ h))) (by decide +kernel))
set_option maxRecDepth 20000 in
theorem gX1_averageDiscount_X1_checkBuyer : GoodIn wsX1_averageDiscount (va_wsS RX1 43 yX1_checkBuyer wsX1_checkBuyer) := goodIn_app (goodIn_of _ (by decide +kernel)) ggX1_averageDiscount_X1_checkBuyer
set_option maxRecDepth 20000 in
theorem ggX1_averageDiscount_Jx4a65c_size_8abf5 : GoodIn wsX1_averageDiscount wsJx4a65c_size_8abf5 := goodIn_r _ [17, 18, 58, 59, 60] (by decide +kernel) (by decide +kernel)
set_option maxRecDepth 20000 in
theorem gX1_averageDiscount_Jx4a65c_size_8abf5 : GoodIn wsX1_averageDiscount (wsV RX1 60 RJx4a65c yJx4a65c_size_8abf5 wsJx4a65c_size_8abf5) := goodIn_app (goodIn_of _ (by decide +kernel)) ggX1_averageDiscount_Jx4a65c_size_8abf5
set_option maxRecDepth 20000 in
theorem ggX1_averageDiscount_Jx4a65c_get_915e3 : GoodIn wsX1_averageDiscount wsJx4a65c_get_915e3 := goodIn_r _ [22, 18, 23, 24, 25, 26, 27, 28, 29, 30, 31, 32, 33, 16, 34, 35, 58, 59, 60] (by decide +kernel) (by decide +kernel)
set_option maxRecDepth 20000 in
theorem gX1_averageDiscount_Jx4a65c_get_915e3 : GoodIn wsX1_averageDiscount (wsV RX1 124 RJx4a65c yJx4a65c_get_915e3 wsJx4a65c_get_915e3) := goodIn_app (goodIn_of _ (by decide +kernel)) ggX1_averageDiscount_Jx4a65c_get_915e3
set_option maxRecDepth 20000 in
theorem ggX1_averageDiscount_X1_checkPossible : GoodIn wsX1_averageDiscount wsX1_checkPossible := goodIn_ca (goodIn_r _ [38, 39, 40] (by decide +kernel) (by decide +kernel)) (goodIn_sub (fun _ h => List.mem_cons_of_mem _ (List.mem_append_right _ h)) (by decide +kernel))
set_option maxRecDepth 20000 in
theorem gX1_averageDiscount_X1_checkPossible : GoodIn wsX1_averageDiscount (va_wsS RX1 64 yX1_checkPossible wsX1_checkPossible) := goodIn_app (goodIn_of _ (by decide +kernel)) ggX1_averageDiscount_X1_checkPossible
theorem dX1_averageDiscount_0 : decode cX1_averageDiscount 0 = .ok (.iload_n 1, 1) := by decide +kernel
theorem dX1_averageDiscount_1 : decode cX1_averageDiscount 1 = .ok (.invokestatic 43, 3) := by decide +kernel
theorem dX1_averageDiscount_4 : decode cX1_averageDiscount 4 = .ok (.iconst 0, 1) := by decide +kernel
theorem dX1_averageDiscount_5 : decode cX1_averageDiscount 5 = .ok (.istore_n 2, 1) := by decide +kernel
theorem dX1_averageDiscount_6 : decode cX1_averageDiscount 6 = .ok (.iconst 0, 1) := by decide +kernel
theorem dX1_averageDiscount_7 : decode cX1_averageDiscount 7 = .ok (.istore_n 3, 1) := by decide +kernel
theorem dX1_averageDiscount_8 : decode cX1_averageDiscount 8 = .ok (.iconst 0, 1) := by decide +kernel
theorem dX1_averageDiscount_9 : decode cX1_averageDiscount 9 = .ok (.istore 4, 2) := by decide +kernel
theorem dX1_averageDiscount_11 : decode cX1_averageDiscount 11 = .ok (.iload 4, 2) := by decide +kernel
theorem dX1_averageDiscount_13 : decode cX1_averageDiscount 13 = .ok (.aload_n 0, 1) := by decide +kernel
theorem dX1_averageDiscount_14 : decode cX1_averageDiscount 14 = .ok (.getfield 22, 3) := by decide +kernel
theorem dX1_averageDiscount_17 : decode cX1_averageDiscount 17 = .ok (.invokevirtual 60, 3) := by decide +kernel
theorem dX1_averageDiscount_20 : decode cX1_averageDiscount 20 = .ok (.if_icmp .ge 63, 3) := by decide +kernel
theorem dX1_averageDiscount_23 : decode cX1_averageDiscount 23 = .ok (.aload_n 0, 1) := by decide +kernel
theorem dX1_averageDiscount_24 : decode cX1_averageDiscount 24 = .ok (.getfield 22, 3) := by decide +kernel
theorem dX1_averageDiscount_27 : decode cX1_averageDiscount 27 = .ok (.iload 4, 2) := by decide +kernel
theorem dX1_averageDiscount_29 : decode cX1_averageDiscount 29 = .ok (.invokevirtual 124, 3) := by decide +kernel
theorem dX1_averageDiscount_32 : decode cX1_averageDiscount 32 = .ok (.checkcast 68, 3) := by decide +kernel
theorem dX1_averageDiscount_35 : decode cX1_averageDiscount 35 = .ok (.astore 5, 2) := by decide +kernel
theorem dX1_averageDiscount_37 : decode cX1_averageDiscount 37 = .ok (.aload 5, 2) := by decide +kernel
theorem dX1_averageDiscount_39 : decode cX1_averageDiscount 39 = .ok (.getfield 147, 3) := by decide +kernel
theorem dX1_averageDiscount_42 : decode cX1_averageDiscount 42 = .ok (.iload_n 1, 1) := by decide +kernel
theorem dX1_averageDiscount_43 : decode cX1_averageDiscount 43 = .ok (.if_icmp .ne 34, 3) := by decide +kernel
theorem dX1_averageDiscount_46 : decode cX1_averageDiscount 46 = .ok (.aload 5, 2) := by decide +kernel
theorem dX1_averageDiscount_48 : decode cX1_averageDiscount 48 = .ok (.getfield 81, 3) := by decide +kernel
theorem dX1_averageDiscount_51 : decode cX1_averageDiscount 51 = .ok (.iconst 3, 1) := by decide +kernel
theorem dX1_averageDiscount_52 : decode cX1_averageDiscount 52 = .ok (.if_icmp .ne 25, 3) := by decide +kernel
theorem dX1_averageDiscount_55 : decode cX1_averageDiscount 55 = .ok (.iload_n 2, 1) := by decide +kernel
theorem dX1_averageDiscount_56 : decode cX1_averageDiscount 56 = .ok (.aload 5, 2) := by decide +kernel
theorem dX1_averageDiscount_58 : decode cX1_averageDiscount 58 = .ok (.getfield 94, 3) := by decide +kernel
theorem dX1_averageDiscount_61 : decode cX1_averageDiscount 61 = .ok (.aload 5, 2) := by decide +kernel
theorem dX1_averageDiscount_63 : decode cX1_averageDiscount 63 = .ok (.getfield 108, 3) := by decide +kernel
theorem dX1_averageDiscount_66 : decode cX1_averageDiscount 66 = .ok (.isub, 1) := by decide +kernel
theorem dX1_averageDiscount_67 : decode cX1_averageDiscount 67 = .ok (.iadd, 1) := by decide +kernel
theorem dX1_averageDiscount_68 : decode cX1_averageDiscount 68 = .ok (.istore_n 2, 1) := by decide +kernel
theorem dX1_averageDiscount_69 : decode cX1_averageDiscount 69 = .ok (.iload_n 3, 1) := by decide +kernel
theorem dX1_averageDiscount_70 : decode cX1_averageDiscount 70 = .ok (.aload 5, 2) := by decide +kernel
theorem dX1_averageDiscount_72 : decode cX1_averageDiscount 72 = .ok (.getfield 94, 3) := by decide +kernel
theorem dX1_averageDiscount_75 : decode cX1_averageDiscount 75 = .ok (.iadd, 1) := by decide +kernel
theorem dX1_averageDiscount_76 : decode cX1_averageDiscount 76 = .ok (.istore_n 3, 1) := by decide +kernel
theorem dX1_averageDiscount_77 : decode cX1_averageDiscount 77 = .ok (.iinc 4 1, 3) := by decide +kernel
theorem dX1_averageDiscount_80 : decode cX1_averageDiscount 80 = .ok (.goto (-69), 3) := by decide +kernel
theorem dX1_averageDiscount_83 : decode cX1_averageDiscount 83 = .ok (.iload_n 3, 1) := by decide +kernel
theorem dX1_averageDiscount_84 : decode cX1_averageDiscount 84 = .ok (.ifCond .eq 7, 3) := by decide +kernel
theorem dX1_averageDiscount_87 : decode cX1_averageDiscount 87 = .ok (.iconst 1, 1) := by decide +kernel
theorem dX1_averageDiscount_88 : decode cX1_averageDiscount 88 = .ok (.goto 4, 3) := by decide +kernel
theorem dX1_averageDiscount_91 : decode cX1_averageDiscount 91 = .ok (.iconst 0, 1) := by decide +kernel
theorem dX1_averageDiscount_92 : decode cX1_averageDiscount 92 = .ok (.invokestatic 64, 3) := by decide +kernel
theorem dX1_averageDiscount_95 : decode cX1_averageDiscount 95 = .ok (.iload_n 2, 1) := by decide +kernel
theorem dX1_averageDiscount_96 : decode cX1_averageDiscount 96 = .ok (.i2f, 1) := by decide +kernel
theorem dX1_averageDiscount_97 : decode cX1_averageDiscount 97 = .ok (.iload_n 3, 1) := by decide +kernel
theorem dX1_averageDiscount_98 : decode cX1_averageDiscount 98 = .ok (.i2f, 1) := by decide +kernel
theorem dX1_averageDiscount_99 : decode cX1_averageDiscount 99 = .ok (.fdiv, 1) := by decide +kernel
theorem dX1_averageDiscount_100 : decode cX1_averageDiscount 100 = .ok (.freturn, 1) := by decide +kernel
set_option maxRecDepth 20000 in
theorem ggX1_pass_X1_checkRange : GoodIn wsX1_pass wsX1_checkRange := goodIn_ca (goodIn_r _ [5, 6, 7] (by decide +kernel) (by decide +kernel)) (goodIn_sub (fun _ h => List.mem_cons_of_mem _ (List.mem_append_left _ (List.mem_append_right _ h))) (by decide +kernel))
set_option maxRecDepth 20000 in
theorem gX1_pass_X1_checkRange : GoodIn wsX1_pass (va_wsS RX1 48 yX1_checkRange wsX1_checkRange) := goodIn_app (goodIn_of _ (by decide +kernel)) ggX1_pass_X1_checkRange
set_option maxRecDepth 20000 in
theorem ggX1_pass_X1_payBillsDueToday : GoodIn wsX1_pass wsX1_payBillsDueToday := goodIn_ca (goodIn_r _ [11, 12, 13, 14, 15, 1, 16, 17, 18, 19, 20, 21, 22, 23, 24, 25, 26, 27, 28, 29, 30, 31, 32, 33, 34, 35, 36, 37, 38, 39, 40, 41, 4, 42, 43, 44, 45, 46, 47, 48, 49, 50, 51, 52, 53, 54, 55, 56, 57, 58, 59, 60, 61, 62, 63, 64, 65, 66, 67, 68, 69, 70, 71, 72, 73, 74, 75, 76, 77, 78, 79, 80, 81, 82, 83, 84, 85, 86, 87] (by decide +kernel) (by decide +kernel)) (goodIn_sub (fun _ h => List.mem_cons_of_mem _ (List.mem_append_right _ h)) (by decide +kernel))
set_option maxRecDepth 20000 in
theorem gX1_pass_X1_payBillsDueToday : GoodIn wsX1_pass (wsV RX1 150 RX1 yX1_payBillsDueToday wsX1_payBillsDueToday) := goodIn_app (goodIn_of _ (by decide +kernel)) ggX1_pass_X1_payBillsDueToday
theorem dX1_pass_0 : decode cX1_pass 0 = .ok (.iload_n 1, 1) := by decide +kernel
theorem dX1_pass_1 : decode cX1_pass 1 = .ok (.iconst 1, 1) := by decide +kernel
theorem dX1_pass_2 : decode cX1_pass 2 = .ok (.sipush 400, 3) := by decide +kernel
theorem dX1_pass_5 : decode cX1_pass 5 = .ok (.invokestatic 48, 3) := by decide +kernel
theorem dX1_pass_8 : decode cX1_pass 8 = .ok (.iconst 0, 1) := by decide +kernel
theorem dX1_pass_9 : decode cX1_pass 9 = .ok (.istore_n 2, 1) := by decide +kernel
theorem dX1_pass_10 : decode cX1_pass 10 = .ok (.iconst 0, 1) := by decide +kernel
theorem dX1_pass_11 : decode cX1_pass 11 = .ok (.istore_n 3, 1) := by decide +kernel
theorem dX1_pass_12 : decode cX1_pass 12 = .ok (.iload_n 3, 1) := by decide +kernel
theorem dX1_pass_13 : decode cX1_pass 13 = .ok (.iload_n 1, 1) := by decide +kernel
theorem dX1_pass_14 : decode cX1_pass 14 = .ok (.if_icmp .ge 26, 3) := by decide +kernel
theorem dX1_pass_17 : decode cX1_pass 17 = .ok (.aload_n 0, 1) := by decide +kernel
theorem dX1_pass_18 : decode cX1_pass 18 = .ok (.dup, 1) := by decide +kernel
theorem dX1_pass_19 : decode cX1_pass 19 = .ok (.getfield 26, 3) := by decide +kernel
theorem dX1_pass_22 : decode cX1_pass 22 = .ok (.iconst 1, 1) := by decide +kernel
theorem dX1_pass_23 : decode cX1_pass 23 = .ok (.iadd, 1) := by decide +kernel
theorem dX1_pass_24 : decode cX1_pass 24 = .ok (.putfield 26, 3) := by decide +kernel
theorem dX1_pass_27 : decode cX1_pass 27 = .ok (.iload_n 2, 1) := by decide +kernel
theorem dX1_pass_28 : decode cX1_pass 28 = .ok (.aload_n 0, 1) := by decide +kernel
theorem dX1_pass_29 : decode cX1_pass 29 = .ok (.invokevirtual 150, 3) := by decide +kernel
theorem dX1_pass_32 : decode cX1_pass 32 = .ok (.iadd, 1) := by decide +kernel
theorem dX1_pass_33 : decode cX1_pass 33 = .ok (.istore_n 2, 1) := by decide +kernel
theorem dX1_pass_34 : decode cX1_pass 34 = .ok (.iinc 3 1, 3) := by decide +kernel
theorem dX1_pass_37 : decode cX1_pass 37 = .ok (.goto (-25), 3) := by decide +kernel
theorem dX1_pass_40 : decode cX1_pass 40 = .ok (.iload_n 2, 1) := by decide +kernel
theorem dX1_pass_41 : decode cX1_pass 41 = .ok (.ireturn, 1) := by decide +kernel
theorem dX1_today_0 : decode cX1_today 0 = .ok (.aload_n 0, 1) := by decide +kernel
theorem dX1_today_1 : decode cX1_today 1 = .ok (.getfield 26, 3) := by decide +kernel
theorem dX1_today_4 : decode cX1_today 4 = .ok (.ireturn, 1) := by decide +kernel
theorem dX1_checkBuyer_0 : decode cX1_checkBuyer 0 = .ok (.iload_n 0, 1) := by decide +kernel
theorem dX1_checkBuyer_1 : decode cX1_checkBuyer 1 = .ok (.ifCond .lt 8, 3) := by decide +kernel
theorem dX1_checkBuyer_4 : decode cX1_checkBuyer 4 = .ok (.iload_n 0, 1) := by decide +kernel
theorem dX1_checkBuyer_5 : decode cX1_checkBuyer 5 = .ok (.iconst 4, 1) := by decide +kernel
theorem dX1_checkBuyer_6 : decode cX1_checkBuyer 6 = .ok (.if_icmp .lt 13, 3) := by decide +kernel
theorem dX1_checkBuyer_9 : decode cX1_checkBuyer 9 = .ok (.new 153, 3) := by decide +kernel
theorem dX1_checkBuyer_12 : decode cX1_checkBuyer 12 = .ok (.dup, 1) := by decide +kernel
theorem dX1_checkBuyer_13 : decode cX1_checkBuyer 13 = .ok (.ldc 155, 2) := by decide +kernel
theorem dX1_checkBuyer_15 : decode cX1_checkBuyer 15 = .ok (.invokespecial 157, 3) := by decide +kernel
theorem dX1_checkBuyer_18 : decode cX1_checkBuyer 18 = .ok (.athrow, 1) := by decide +kernel
theorem dX1_checkBuyer_19 : decode cX1_checkBuyer 19 = .ok (.return_, 1) := by decide +kernel
theorem dX1_checkSupplier_0 : decode cX1_checkSupplier 0 = .ok (.iload_n 0, 1) := by decide +kernel
theorem dX1_checkSupplier_1 : decode cX1_checkSupplier 1 = .ok (.ifCond .lt 9, 3) := by decide +kernel
theorem dX1_checkSupplier_4 : decode cX1_checkSupplier 4 = .ok (.iload_n 0, 1) := by decide +kernel
theorem dX1_checkSupplier_5 : decode cX1_checkSupplier 5 = .ok (.bipush 8, 2) := by decide +kernel
theorem dX1_checkSupplier_7 : decode cX1_checkSupplier 7 = .ok (.if_icmp .lt 13, 3) := by decide +kernel
theorem dX1_checkSupplier_10 : decode cX1_checkSupplier 10 = .ok (.new 153, 3) := by decide +kernel
theorem dX1_checkSupplier_13 : decode cX1_checkSupplier 13 = .ok (.dup, 1) := by decide +kernel
theorem dX1_checkSupplier_14 : decode cX1_checkSupplier 14 = .ok (.ldc 160, 2) := by decide +kernel
theorem dX1_checkSupplier_16 : decode cX1_checkSupplier 16 = .ok (.invokespecial 157, 3) := by decide +kernel
theorem dX1_checkSupplier_19 : decode cX1_checkSupplier 19 = .ok (.athrow, 1) := by decide +kernel
theorem dX1_checkSupplier_20 : decode cX1_checkSupplier 20 = .ok (.return_, 1) := by decide +kernel
theorem dX1_checkRange_0 : decode cX1_checkRange 0 = .ok (.iload_n 0, 1) := by decide +kernel
theorem dX1_checkRange_1 : decode cX1_checkRange 1 = .ok (.iload_n 1, 1) := by decide +kernel
theorem dX1_checkRange_2 : decode cX1_checkRange 2 = .ok (.if_icmp .lt 8, 3) := by decide +kernel
theorem dX1_checkRange_5 : decode cX1_checkRange 5 = .ok (.iload_n 0, 1) := by decide +kernel
theorem dX1_checkRange_6 : decode cX1_checkRange 6 = .ok (.iload_n 2, 1) := by decide +kernel
theorem dX1_checkRange_7 : decode cX1_checkRange 7 = .ok (.if_icmp .le 13, 3) := by decide +kernel
theorem dX1_checkRange_10 : decode cX1_checkRange 10 = .ok (.new 162, 3) := by decide +kernel
theorem dX1_checkRange_13 : decode cX1_checkRange 13 = .ok (.dup, 1) := by decide +kernel
theorem dX1_checkRange_14 : decode cX1_checkRange 14 = .ok (.ldc 164, 2) := by decide +kernel
theorem dX1_checkRange_16 : decode cX1_checkRange 16 = .ok (.invokespecial 166, 3) := by decide +kernel
theorem dX1_checkRange_19 : decode cX1_checkRange 19 = .ok (.athrow, 1) := by decide +kernel
theorem dX1_checkRange_20 : decode cX1_checkRange 20 = .ok (.return_, 1) := by decide +kernel
theorem dX1_checkPossible_0 : decode cX1_checkPossible 0 = .ok (.iload_n 0, 1) := by decide +kernel
theorem dX1_checkPossible_1 : decode cX1_checkPossible 1 = .ok (.ifCond .ne 13, 3) := by decide +kernel
theorem dX1_checkPossible_4 : decode cX1_checkPossible 4 = .ok (.new 167, 3) := by decide +kernel
theorem dX1_checkPossible_7 : decode cX1_checkPossible 7 = .ok (.dup, 1) := by decide +kernel
theorem dX1_checkPossible_8 : decode cX1_checkPossible 8 = .ok (.ldc 169, 2) := by decide +kernel
theorem dX1_checkPossible_10 : decode cX1_checkPossible 10 = .ok (.invokespecial 171, 3) := by decide +kernel
theorem dX1_checkPossible_13 : decode cX1_checkPossible 13 = .ok (.athrow, 1) := by decide +kernel
theorem dX1_checkPossible_14 : decode cX1_checkPossible 14 = .ok (.return_, 1) := by decide +kernel
set_option maxRecDepth 20000 in
theorem ggX1_pairOf_X1_checkBuyer : GoodIn wsX1_pairOf wsX1_checkBuyer := goodIn_ca (goodIn_r _ [4, 5, 6] (by decide +kernel) (by decide +kernel)) (goodIn_sub (fun _ h => List.mem_cons_of_mem _ (List.mem_append_right _ h)) (by decide +kernel))
set_option maxRecDepth 20000 in
theorem gX1_pairOf_X1_checkBuyer : GoodIn wsX1_pairOf (va_wsS RX1 43 yX1_checkBuyer wsX1_checkBuyer) := goodIn_app (goodIn_of _ (by decide +kernel)) ggX1_pairOf_X1_checkBuyer
set_option maxRecDepth 20000 in
theorem ggX1_pairOf_X1_checkSupplier : GoodIn wsX1_pairOf wsX1_checkSupplier := goodIn_ca (goodIn_r _ [9, 5, 6] (by decide +kernel) (by decide +kernel)) (goodIn_sub (fun _ h => List.mem_cons_of_mem _ (List.mem_append_right _ h)) (by decide +kernel))
set_option maxRecDepth 20000 in
theorem gX1_pairOf_X1_checkSupplier : GoodIn wsX1_pairOf (va_wsS RX1 56 yX1_checkSupplier wsX1_checkSupplier) := goodIn_app (goodIn_of _ (by decide +kernel)) ggX1_pairOf_X1_checkSupplier
theorem dX1_pairOf_0 : decode cX1_pairOf 0 = .ok (.iload_n 0, 1) := by decide +kernel
theorem dX1_pairOf_1 : decode cX1_pairOf 1 = .ok (.invokestatic 43, 3) := by decide +kernel
theorem dX1_pairOf_4 : decode cX1_pairOf 4 = .ok (.iload_n 1, 1) := by decide +kernel
theorem dX1_pairOf_5 : decode cX1_pairOf 5 = .ok (.invokestatic 56, 3) := by decide +kernel
theorem dX1_pairOf_8 : decode cX1_pairOf 8 = .ok (.iload_n 0, 1) := by decide +kernel
theorem dX1_pairOf_9 : decode cX1_pairOf 9 = .ok (.bipush 8, 2) := by decide +kernel
theorem dX1_pairOf_11 : decode cX1_pairOf 11 = .ok (.imul, 1) := by decide +kernel
theorem dX1_pairOf_12 : decode cX1_pairOf 12 = .ok (.iload_n 1, 1) := by decide +kernel
theorem dX1_pairOf_13 : decode cX1_pairOf 13 = .ok (.iadd, 1) := by decide +kernel
theorem dX1_pairOf_14 : decode cX1_pairOf 14 = .ok (.ireturn, 1) := by decide +kernel
set_option maxRecDepth 20000 in
theorem ggX1_billAt_Jx4a65c_size_8abf5 : GoodIn wsX1_billAt wsJx4a65c_size_8abf5 := goodIn_r _ [9, 10, 35, 36, 37] (by decide +kernel) (by decide +kernel)
set_option maxRecDepth 20000 in
theorem gX1_billAt_Jx4a65c_size_8abf5 : GoodIn wsX1_billAt (wsV RX1 60 RJx4a65c yJx4a65c_size_8abf5 wsJx4a65c_size_8abf5) := goodIn_app (goodIn_of _ (by decide +kernel)) ggX1_billAt_Jx4a65c_size_8abf5
set_option maxRecDepth 20000 in
theorem ggX1_billAt_Jx4a65c_get_915e3 : GoodIn wsX1_billAt wsJx4a65c_get_915e3 := goodIn_r _ [14, 10, 15, 16, 17, 18, 19, 20, 21, 22, 23, 24, 25, 8, 26, 27, 35, 36, 37] (by decide +kernel) (by decide +kernel)
set_option maxRecDepth 20000 in
theorem gX1_billAt_Jx4a65c_get_915e3 : GoodIn wsX1_billAt (wsV RX1 124 RJx4a65c yJx4a65c_get_915e3 wsJx4a65c_get_915e3) := goodIn_app (goodIn_of _ (by decide +kernel)) ggX1_billAt_Jx4a65c_get_915e3
theorem dX1_billAt_0 : decode cX1_billAt 0 = .ok (.iload_n 1, 1) := by decide +kernel
theorem dX1_billAt_1 : decode cX1_billAt 1 = .ok (.ifCond .lt 14, 3) := by decide +kernel
theorem dX1_billAt_4 : decode cX1_billAt 4 = .ok (.iload_n 1, 1) := by decide +kernel
theorem dX1_billAt_5 : decode cX1_billAt 5 = .ok (.aload_n 0, 1) := by decide +kernel
theorem dX1_billAt_6 : decode cX1_billAt 6 = .ok (.getfield 22, 3) := by decide +kernel
theorem dX1_billAt_9 : decode cX1_billAt 9 = .ok (.invokevirtual 60, 3) := by decide +kernel
theorem dX1_billAt_12 : decode cX1_billAt 12 = .ok (.if_icmp .lt 13, 3) := by decide +kernel
theorem dX1_billAt_15 : decode cX1_billAt 15 = .ok (.new 153, 3) := by decide +kernel
theorem dX1_billAt_18 : decode cX1_billAt 18 = .ok (.dup, 1) := by decide +kernel
theorem dX1_billAt_19 : decode cX1_billAt 19 = .ok (.ldc 172, 2) := by decide +kernel
theorem dX1_billAt_21 : decode cX1_billAt 21 = .ok (.invokespecial 157, 3) := by decide +kernel
theorem dX1_billAt_24 : decode cX1_billAt 24 = .ok (.athrow, 1) := by decide +kernel
theorem dX1_billAt_25 : decode cX1_billAt 25 = .ok (.aload_n 0, 1) := by decide +kernel
theorem dX1_billAt_26 : decode cX1_billAt 26 = .ok (.getfield 22, 3) := by decide +kernel
theorem dX1_billAt_29 : decode cX1_billAt 29 = .ok (.iload_n 1, 1) := by decide +kernel
theorem dX1_billAt_30 : decode cX1_billAt 30 = .ok (.invokevirtual 124, 3) := by decide +kernel
theorem dX1_billAt_33 : decode cX1_billAt 33 = .ok (.checkcast 68, 3) := by decide +kernel
theorem dX1_billAt_36 : decode cX1_billAt 36 = .ok (.areturn, 1) := by decide +kernel
set_option maxRecDepth 20000 in
theorem ggX1_gatherOffers_Jx4a65c_clear_da8c8 : GoodIn wsX1_gatherOffers wsJx4a65c_clear_da8c8 := goodIn_r _ [11, 12, 13, 14, 15, 118, 119, 120] (by decide +kernel) (by decide +kernel)
set_option maxRecDepth 20000 in
theorem gX1_gatherOffers_Jx4a65c_clear_da8c8 : GoodIn wsX1_gatherOffers (wsV RX1 174 RJx4a65c yJx4a65c_clear_da8c8 wsJx4a65c_clear_da8c8) := goodIn_app (goodIn_of _ (by decide +kernel)) ggX1_gatherOffers_Jx4a65c_clear_da8c8
set_option maxRecDepth 20000 in
theorem ggX1_gatherOffers_Jx4a65c_size_8abf5 : GoodIn wsX1_gatherOffers wsJx4a65c_size_8abf5 := goodIn_r _ [19, 15, 118, 119, 120] (by decide +kernel) (by decide +kernel)
set_option maxRecDepth 20000 in
theorem gX1_gatherOffers_Jx4a65c_size_8abf5 : GoodIn wsX1_gatherOffers (wsV RX1 60 RJx4a65c yJx4a65c_size_8abf5 wsJx4a65c_size_8abf5) := goodIn_app (goodIn_of _ (by decide +kernel)) ggX1_gatherOffers_Jx4a65c_size_8abf5
set_option maxRecDepth 20000 in
theorem ggX1_gatherOffers_Jx4a65c_get_915e3 : GoodIn wsX1_gatherOffers wsJx4a65c_get_915e3 := goodIn_r _ [23, 15, 24, 25, 26, 27, 28, 29, 30, 31, 32, 33, 34, 10, 35, 14, 118, 119, 120] (by decide +kernel) (by decide +kernel)
set_option maxRecDepth 20000 in
theorem gX1_gatherOffers_Jx4a65c_get_915e3 : GoodIn wsX1_gatherOffers (wsV RX1 124 RJx4a65c yJx4a65c_get_915e3 wsJx4a65c_get_915e3) := goodIn_app (goodIn_of _ (by decide +kernel)) ggX1_gatherOffers_Jx4a65c_get_915e3
set_option maxRecDepth 20000 in
theorem ggX1_gatherOffers_X0_canBeCleared : GoodIn wsX1_gatherOffers wsX0_canBeCleared := goodIn_r _ [40, 41, 42, 43, 108, 109, 110, 111, 112, 113, 114, 115, 116, 117] (by decide +kernel) (by decide +kernel)
set_option maxRecDepth 20000 in
theorem gX1_gatherOffers_X0_canBeCleared : GoodIn wsX1_gatherOffers (wsV RX1 177 RX0 yX0_canBeCleared wsX0_canBeCleared) := goodIn_app (goodIn_of _ (by decide +kernel)) ggX1_gatherOffers_X0_canBeCleared
set_option maxRecDepth 20000 in
theorem ggX1_gatherOffers_X1_placeOfRate : GoodIn wsX1_gatherOffers wsX1_placeOfRate := goodIn_r _ [48, 1, 3, 6, 16, 17, 18, 10, 19, 15, 20, 21, 22, 23, 24, 25, 26, 27, 28, 29, 30, 31, 32, 33, 34, 35, 14, 101, 102, 103, 104, 105, 106, 107, 108, 109, 110, 111, 112, 113, 114, 115, 116, 117, 118, 119, 120] (by decide +kernel) (by decide +kernel)
set_option maxRecDepth 20000 in
theorem gX1_gatherOffers_X1_placeOfRate : GoodIn wsX1_gatherOffers (wsV RX1 181 RX1 yX1_placeOfRate wsX1_placeOfRate) := goodIn_app (goodIn_of _ (by decide +kernel)) ggX1_gatherOffers_X1_placeOfRate
set_option maxRecDepth 20000 in
theorem ggX1_gatherOffers_Jx4a65c_add_7a177 : GoodIn wsX1_gatherOffers wsJx4a65c_add_7a177 := goodIn_r _ [52, 12, 13, 15, 14, 53, 54, 55, 56, 57, 58, 59, 10, 60, 61, 62, 63, 64, 65, 66, 67, 68, 69, 70, 71, 72, 73, 74, 75, 76, 77, 78, 79, 80, 81, 82, 83, 84, 85, 86, 87, 88, 89, 90, 91, 92, 93, 94, 95, 96, 97, 98, 99, 100, 118, 119, 120] (by decide +kernel) (by decide +kernel)
set_option maxRecDepth 20000 in
theorem gX1_gatherOffers_Jx4a65c_add_7a177 : GoodIn wsX1_gatherOffers (wsV RX1 184 RJx4a65c yJx4a65c_add_7a177 wsJx4a65c_add_7a177) := goodIn_app (goodIn_of _ (by decide +kernel)) ggX1_gatherOffers_Jx4a65c_add_7a177
theorem dX1_gatherOffers_0 : decode cX1_gatherOffers 0 = .ok (.aload_n 0, 1) := by decide +kernel
theorem dX1_gatherOffers_1 : decode cX1_gatherOffers 1 = .ok (.getfield 30, 3) := by decide +kernel
theorem dX1_gatherOffers_4 : decode cX1_gatherOffers 4 = .ok (.invokevirtual 174, 3) := by decide +kernel
theorem dX1_gatherOffers_7 : decode cX1_gatherOffers 7 = .ok (.iconst 0, 1) := by decide +kernel
theorem dX1_gatherOffers_8 : decode cX1_gatherOffers 8 = .ok (.istore_n 2, 1) := by decide +kernel
theorem dX1_gatherOffers_9 : decode cX1_gatherOffers 9 = .ok (.iload_n 2, 1) := by decide +kernel
theorem dX1_gatherOffers_10 : decode cX1_gatherOffers 10 = .ok (.aload_n 0, 1) := by decide +kernel
theorem dX1_gatherOffers_11 : decode cX1_gatherOffers 11 = .ok (.getfield 22, 3) := by decide +kernel
theorem dX1_gatherOffers_14 : decode cX1_gatherOffers 14 = .ok (.invokevirtual 60, 3) := by decide +kernel
theorem dX1_gatherOffers_17 : decode cX1_gatherOffers 17 = .ok (.if_icmp .ge 56, 3) := by decide +kernel
theorem dX1_gatherOffers_20 : decode cX1_gatherOffers 20 = .ok (.aload_n 0, 1) := by decide +kernel
theorem dX1_gatherOffers_21 : decode cX1_gatherOffers 21 = .ok (.getfield 22, 3) := by decide +kernel
theorem dX1_gatherOffers_24 : decode cX1_gatherOffers 24 = .ok (.iload_n 2, 1) := by decide +kernel
theorem dX1_gatherOffers_25 : decode cX1_gatherOffers 25 = .ok (.invokevirtual 124, 3) := by decide +kernel
theorem dX1_gatherOffers_28 : decode cX1_gatherOffers 28 = .ok (.checkcast 68, 3) := by decide +kernel
theorem dX1_gatherOffers_31 : decode cX1_gatherOffers 31 = .ok (.astore_n 3, 1) := by decide +kernel
theorem dX1_gatherOffers_32 : decode cX1_gatherOffers 32 = .ok (.aload_n 3, 1) := by decide +kernel
theorem dX1_gatherOffers_33 : decode cX1_gatherOffers 33 = .ok (.getfield 147, 3) := by decide +kernel
theorem dX1_gatherOffers_36 : decode cX1_gatherOffers 36 = .ok (.iload_n 1, 1) := by decide +kernel
theorem dX1_gatherOffers_37 : decode cX1_gatherOffers 37 = .ok (.if_icmp .ne 30, 3) := by decide +kernel
theorem dX1_gatherOffers_40 : decode cX1_gatherOffers 40 = .ok (.aload_n 3, 1) := by decide +kernel
theorem dX1_gatherOffers_41 : decode cX1_gatherOffers 41 = .ok (.aload_n 0, 1) := by decide +kernel
theorem dX1_gatherOffers_42 : decode cX1_gatherOffers 42 = .ok (.getfield 26, 3) := by decide +kernel
theorem dX1_gatherOffers_45 : decode cX1_gatherOffers 45 = .ok (.invokevirtual 177, 3) := by decide +kernel
theorem dX1_gatherOffers_48 : decode cX1_gatherOffers 48 = .ok (.ifCond .eq 19, 3) := by decide +kernel
theorem dX1_gatherOffers_51 : decode cX1_gatherOffers 51 = .ok (.aload_n 0, 1) := by decide +kernel
theorem dX1_gatherOffers_52 : decode cX1_gatherOffers 52 = .ok (.getfield 30, 3) := by decide +kernel
theorem dX1_gatherOffers_55 : decode cX1_gatherOffers 55 = .ok (.aload_n 0, 1) := by decide +kernel
theorem dX1_gatherOffers_56 : decode cX1_gatherOffers 56 = .ok (.aload_n 3, 1) := by decide +kernel
theorem dX1_gatherOffers_57 : decode cX1_gatherOffers 57 = .ok (.getfield 91, 3) := by decide +kernel
theorem dX1_gatherOffers_60 : decode cX1_gatherOffers 60 = .ok (.invokevirtual 181, 3) := by decide +kernel
theorem dX1_gatherOffers_63 : decode cX1_gatherOffers 63 = .ok (.aload_n 3, 1) := by decide +kernel
theorem dX1_gatherOffers_64 : decode cX1_gatherOffers 64 = .ok (.invokevirtual 184, 3) := by decide +kernel
theorem dX1_gatherOffers_67 : decode cX1_gatherOffers 67 = .ok (.iinc 2 1, 3) := by decide +kernel
theorem dX1_gatherOffers_70 : decode cX1_gatherOffers 70 = .ok (.goto (-61), 3) := by decide +kernel
theorem dX1_gatherOffers_73 : decode cX1_gatherOffers 73 = .ok (.return_, 1) := by decide +kernel
set_option maxRecDepth 20000 in
theorem ggX1_placeOfRate_Jx4a65c_size_8abf5 : GoodIn wsX1_placeOfRate wsJx4a65c_size_8abf5 := goodIn_r _ [8, 9, 44, 45, 46] (by decide +kernel) (by decide +kernel)
set_option maxRecDepth 20000 in
theorem gX1_placeOfRate_Jx4a65c_size_8abf5 : GoodIn wsX1_placeOfRate (wsV RX1 60 RJx4a65c yJx4a65c_size_8abf5 wsJx4a65c_size_8abf5) := goodIn_app (goodIn_of _ (by decide +kernel)) ggX1_placeOfRate_Jx4a65c_size_8abf5
set_option maxRecDepth 20000 in
theorem ggX1_placeOfRate_Jx4a65c_get_915e3 : GoodIn wsX1_placeOfRate wsJx4a65c_get_915e3 := goodIn_r _ [13, 9, 14, 15, 16, 17, 18, 19, 20, 21, 22, 23, 24, 7, 25, 26, 44, 45, 46] (by decide +kernel) (by decide +kernel)
set_option maxRecDepth 20000 in
theorem gX1_placeOfRate_Jx4a65c_get_915e3 : GoodIn wsX1_placeOfRate (wsV RX1 124 RJx4a65c yJx4a65c_get_915e3 wsJx4a65c_get_915e3) := goodIn_app (goodIn_of _ (by decide +kernel)) ggX1_placeOfRate_Jx4a65c_get_915e3
theorem dX1_placeOfRate_0 : decode cX1_placeOfRate 0 = .ok (.iconst 0, 1) := by decide +kernel
theorem dX1_placeOfRate_1 : decode cX1_placeOfRate 1 = .ok (.istore_n 2, 1) := by decide +kernel
theorem dX1_placeOfRate_2 : decode cX1_placeOfRate 2 = .ok (.iload_n 2, 1) := by decide +kernel
theorem dX1_placeOfRate_3 : decode cX1_placeOfRate 3 = .ok (.aload_n 0, 1) := by decide +kernel
theorem dX1_placeOfRate_4 : decode cX1_placeOfRate 4 = .ok (.getfield 30, 3) := by decide +kernel
theorem dX1_placeOfRate_7 : decode cX1_placeOfRate 7 = .ok (.invokevirtual 60, 3) := by decide +kernel
theorem dX1_placeOfRate_10 : decode cX1_placeOfRate 10 = .ok (.if_icmp .ge 27, 3) := by decide +kernel
theorem dX1_placeOfRate_13 : decode cX1_placeOfRate 13 = .ok (.aload_n 0, 1) := by decide +kernel
theorem dX1_placeOfRate_14 : decode cX1_placeOfRate 14 = .ok (.getfield 30, 3) := by decide +kernel
theorem dX1_placeOfRate_17 : decode cX1_placeOfRate 17 = .ok (.iload_n 2, 1) := by decide +kernel
theorem dX1_placeOfRate_18 : decode cX1_placeOfRate 18 = .ok (.invokevirtual 124, 3) := by decide +kernel
theorem dX1_placeOfRate_21 : decode cX1_placeOfRate 21 = .ok (.checkcast 68, 3) := by decide +kernel
theorem dX1_placeOfRate_24 : decode cX1_placeOfRate 24 = .ok (.getfield 91, 3) := by decide +kernel
theorem dX1_placeOfRate_27 : decode cX1_placeOfRate 27 = .ok (.iload_n 1, 1) := by decide +kernel
theorem dX1_placeOfRate_28 : decode cX1_placeOfRate 28 = .ok (.if_icmp .lt 9, 3) := by decide +kernel
theorem dX1_placeOfRate_31 : decode cX1_placeOfRate 31 = .ok (.iinc 2 1, 3) := by decide +kernel
theorem dX1_placeOfRate_34 : decode cX1_placeOfRate 34 = .ok (.goto (-32), 3) := by decide +kernel
theorem dX1_placeOfRate_37 : decode cX1_placeOfRate 37 = .ok (.iload_n 2, 1) := by decide +kernel
theorem dX1_placeOfRate_38 : decode cX1_placeOfRate 38 = .ok (.ireturn, 1) := by decide +kernel
set_option maxRecDepth 20000 in
theorem ggX1_measureRoom_X1_left : GoodIn wsX1_measureRoom wsX1_left := goodIn_ca (goodIn_r _ [6, 7, 8, 9, 5, 10, 11, 12, 13, 14, 15, 16, 17, 18, 19, 20, 21, 22, 23, 24, 25, 26, 27, 28, 29, 30, 31, 32, 33, 34, 35, 36, 37, 38, 39, 40, 41, 42, 43, 44, 45, 46, 47, 48, 49, 50, 51, 52, 53, 54, 55, 56, 57, 58, 59, 60, 61, 62, 63, 64, 65, 66, 67, 68, 69, 70, 71, 72, 73] (by decide +kernel) (by decide +kernel)) (goodIn_sub (fun _ h => List.mem_cons_of_mem _ (List.mem_append_right _ h)) (by decide +kernel))
set_option maxRecDepth 20000 in
theorem gX1_measureRoom_X1_left : GoodIn wsX1_measureRoom (wsV RX1 187 RX1 yX1_left wsX1_left) := goodIn_app (goodIn_of _ (by decide +kernel)) ggX1_measureRoom_X1_left
theorem dX1_measureRoom_0 : decode cX1_measureRoom 0 = .ok (.iconst 0, 1) := by decide +kernel
theorem dX1_measureRoom_1 : decode cX1_measureRoom 1 = .ok (.istore_n 2, 1) := by decide +kernel
theorem dX1_measureRoom_2 : decode cX1_measureRoom 2 = .ok (.iload_n 2, 1) := by decide +kernel
theorem dX1_measureRoom_3 : decode cX1_measureRoom 3 = .ok (.bipush 8, 2) := by decide +kernel
theorem dX1_measureRoom_5 : decode cX1_measureRoom 5 = .ok (.if_icmp .ge 21, 3) := by decide +kernel
theorem dX1_measureRoom_8 : decode cX1_measureRoom 8 = .ok (.aload_n 0, 1) := by decide +kernel
theorem dX1_measureRoom_9 : decode cX1_measureRoom 9 = .ok (.getfield 33, 3) := by decide +kernel
theorem dX1_measureRoom_12 : decode cX1_measureRoom 12 = .ok (.iload_n 2, 1) := by decide +kernel
theorem dX1_measureRoom_13 : decode cX1_measureRoom 13 = .ok (.aload_n 0, 1) := by decide +kernel
theorem dX1_measureRoom_14 : decode cX1_measureRoom 14 = .ok (.iload_n 1, 1) := by decide +kernel
theorem dX1_measureRoom_15 : decode cX1_measureRoom 15 = .ok (.iload_n 2, 1) := by decide +kernel
theorem dX1_measureRoom_16 : decode cX1_measureRoom 16 = .ok (.invokevirtual 187, 3) := by decide +kernel
theorem dX1_measureRoom_19 : decode cX1_measureRoom 19 = .ok (.iastore, 1) := by decide +kernel
theorem dX1_measureRoom_20 : decode cX1_measureRoom 20 = .ok (.iinc 2 1, 3) := by decide +kernel
theorem dX1_measureRoom_23 : decode cX1_measureRoom 23 = .ok (.goto (-21), 3) := by decide +kernel
theorem dX1_measureRoom_26 : decode cX1_measureRoom 26 = .ok (.return_, 1) := by decide +kernel
set_option maxRecDepth 20000 in
theorem ggX1_acceptedOf_X1_measureRoom : GoodIn wsX1_acceptedOf wsX1_measureRoom := goodIn_ca (goodIn_r _ [12, 5, 13, 14, 15, 11, 16, 17, 18, 19, 20, 21, 22, 23, 24, 25, 26, 27, 28, 29, 30, 31, 32, 33, 3, 34, 6, 35, 36, 4, 37, 38, 39, 40, 41, 42, 43, 44, 45, 46, 47, 48, 49, 50, 51, 52, 53, 54, 55, 56, 57, 58, 59, 60, 74, 75, 76, 77, 78, 79, 80, 81, 82, 83, 84, 85, 86, 87, 88, 89, 90, 91, 92, 93] (by decide +kernel) (by decide +kernel)) (goodIn_sub (fun _ h => List.mem_cons_of_mem _ (List.mem_append_right _ h)) (by decide +kernel))
set_option maxRecDepth 20000 in
theorem gX1_acceptedOf_X1_measureRoom : GoodIn wsX1_acceptedOf (wsV RX1 137 RX1 yX1_measureRoom wsX1_measureRoom) := goodIn_app (goodIn_of _ (by decide +kernel)) ggX1_acceptedOf_X1_measureRoom
set_option maxRecDepth 20000 in
theorem ggX1_acceptedOf_Jx4a65c_size_8abf5 : GoodIn wsX1_acceptedOf wsJx4a65c_size_8abf5 := goodIn_r _ [42, 43, 91, 92, 93] (by decide +kernel) (by decide +kernel)
set_option maxRecDepth 20000 in
theorem gX1_acceptedOf_Jx4a65c_size_8abf5 : GoodIn wsX1_acceptedOf (wsV RX1 60 RJx4a65c yJx4a65c_size_8abf5 wsJx4a65c_size_8abf5) := goodIn_app (goodIn_of _ (by decide +kernel)) ggX1_acceptedOf_Jx4a65c_size_8abf5
set_option maxRecDepth 20000 in
theorem ggX1_acceptedOf_Jx4a65c_get_915e3 : GoodIn wsX1_acceptedOf wsJx4a65c_get_915e3 := goodIn_r _ [47, 43, 48, 49, 50, 51, 52, 53, 54, 55, 56, 57, 58, 41, 59, 60, 91, 92, 93] (by decide +kernel) (by decide +kernel)
set_option maxRecDepth 20000 in
theorem gX1_acceptedOf_Jx4a65c_get_915e3 : GoodIn wsX1_acceptedOf (wsV RX1 124 RJx4a65c yJx4a65c_get_915e3 wsJx4a65c_get_915e3) := goodIn_app (goodIn_of _ (by decide +kernel)) ggX1_acceptedOf_Jx4a65c_get_915e3
set_option maxRecDepth 20000 in
theorem ggX1_acceptedOf_X0_priceOn : GoodIn wsX1_acceptedOf wsX0_priceOn := goodIn_r _ [65, 66, 67, 68, 69, 64, 70, 71, 72, 73, 81, 82, 83, 84, 85, 86, 87, 88, 89, 90] (by decide +kernel) (by decide +kernel)
set_option maxRecDepth 20000 in
theorem gX1_acceptedOf_X0_priceOn : GoodIn wsX1_acceptedOf (wsV RX1 114 RX0 yX0_priceOn wsX0_priceOn) := goodIn_app (goodIn_of _ (by decide +kernel)) ggX1_acceptedOf_X0_priceOn
theorem dX1_acceptedOf_0 : decode cX1_acceptedOf 0 = .ok (.aload_n 0, 1) := by decide +kernel
theorem dX1_acceptedOf_1 : decode cX1_acceptedOf 1 = .ok (.iload_n 1, 1) := by decide +kernel
theorem dX1_acceptedOf_2 : decode cX1_acceptedOf 2 = .ok (.invokevirtual 137, 3) := by decide +kernel
theorem dX1_acceptedOf_5 : decode cX1_acceptedOf 5 = .ok (.aload_n 0, 1) := by decide +kernel
theorem dX1_acceptedOf_6 : decode cX1_acceptedOf 6 = .ok (.getfield 9, 3) := by decide +kernel
theorem dX1_acceptedOf_9 : decode cX1_acceptedOf 9 = .ok (.iload_n 1, 1) := by decide +kernel
theorem dX1_acceptedOf_10 : decode cX1_acceptedOf 10 = .ok (.iaload, 1) := by decide +kernel
theorem dX1_acceptedOf_11 : decode cX1_acceptedOf 11 = .ok (.istore_n 2, 1) := by decide +kernel
theorem dX1_acceptedOf_12 : decode cX1_acceptedOf 12 = .ok (.iconst 0, 1) := by decide +kernel
theorem dX1_acceptedOf_13 : decode cX1_acceptedOf 13 = .ok (.istore_n 3, 1) := by decide +kernel
theorem dX1_acceptedOf_14 : decode cX1_acceptedOf 14 = .ok (.iconst 0, 1) := by decide +kernel
theorem dX1_acceptedOf_15 : decode cX1_acceptedOf 15 = .ok (.istore 4, 2) := by decide +kernel
theorem dX1_acceptedOf_17 : decode cX1_acceptedOf 17 = .ok (.iload 4, 2) := by decide +kernel
theorem dX1_acceptedOf_19 : decode cX1_acceptedOf 19 = .ok (.aload_n 0, 1) := by decide +kernel
theorem dX1_acceptedOf_20 : decode cX1_acceptedOf 20 = .ok (.getfield 30, 3) := by decide +kernel
theorem dX1_acceptedOf_23 : decode cX1_acceptedOf 23 = .ok (.invokevirtual 60, 3) := by decide +kernel
theorem dX1_acceptedOf_26 : decode cX1_acceptedOf 26 = .ok (.if_icmp .ge 85, 3) := by decide +kernel
theorem dX1_acceptedOf_29 : decode cX1_acceptedOf 29 = .ok (.aload_n 0, 1) := by decide +kernel
theorem dX1_acceptedOf_30 : decode cX1_acceptedOf 30 = .ok (.getfield 30, 3) := by decide +kernel
theorem dX1_acceptedOf_33 : decode cX1_acceptedOf 33 = .ok (.iload 4, 2) := by decide +kernel
theorem dX1_acceptedOf_35 : decode cX1_acceptedOf 35 = .ok (.invokevirtual 124, 3) := by decide +kernel
theorem dX1_acceptedOf_38 : decode cX1_acceptedOf 38 = .ok (.checkcast 68, 3) := by decide +kernel
theorem dX1_acceptedOf_41 : decode cX1_acceptedOf 41 = .ok (.astore 5, 2) := by decide +kernel
theorem dX1_acceptedOf_43 : decode cX1_acceptedOf 43 = .ok (.aload 5, 2) := by decide +kernel
theorem dX1_acceptedOf_45 : decode cX1_acceptedOf 45 = .ok (.aload_n 0, 1) := by decide +kernel
theorem dX1_acceptedOf_46 : decode cX1_acceptedOf 46 = .ok (.getfield 26, 3) := by decide +kernel
theorem dX1_acceptedOf_49 : decode cX1_acceptedOf 49 = .ok (.invokevirtual 114, 3) := by decide +kernel
theorem dX1_acceptedOf_52 : decode cX1_acceptedOf 52 = .ok (.istore 6, 2) := by decide +kernel
theorem dX1_acceptedOf_54 : decode cX1_acceptedOf 54 = .ok (.iload 6, 2) := by decide +kernel
theorem dX1_acceptedOf_56 : decode cX1_acceptedOf 56 = .ok (.iload_n 2, 1) := by decide +kernel
theorem dX1_acceptedOf_57 : decode cX1_acceptedOf 57 = .ok (.if_icmp .gt 48, 3) := by decide +kernel
theorem dX1_acceptedOf_60 : decode cX1_acceptedOf 60 = .ok (.iload 6, 2) := by decide +kernel
theorem dX1_acceptedOf_62 : decode cX1_acceptedOf 62 = .ok (.aload_n 0, 1) := by decide +kernel
theorem dX1_acceptedOf_63 : decode cX1_acceptedOf 63 = .ok (.getfield 33, 3) := by decide +kernel
theorem dX1_acceptedOf_66 : decode cX1_acceptedOf 66 = .ok (.aload 5, 2) := by decide +kernel
theorem dX1_acceptedOf_68 : decode cX1_acceptedOf 68 = .ok (.getfield 190, 3) := by decide +kernel
theorem dX1_acceptedOf_71 : decode cX1_acceptedOf 71 = .ok (.iaload, 1) := by decide +kernel
theorem dX1_acceptedOf_72 : decode cX1_acceptedOf 72 = .ok (.if_icmp .gt 33, 3) := by decide +kernel
theorem dX1_acceptedOf_75 : decode cX1_acceptedOf 75 = .ok (.iload_n 2, 1) := by decide +kernel
theorem dX1_acceptedOf_76 : decode cX1_acceptedOf 76 = .ok (.iload 6, 2) := by decide +kernel
theorem dX1_acceptedOf_78 : decode cX1_acceptedOf 78 = .ok (.isub, 1) := by decide +kernel
theorem dX1_acceptedOf_79 : decode cX1_acceptedOf 79 = .ok (.istore_n 2, 1) := by decide +kernel
theorem dX1_acceptedOf_80 : decode cX1_acceptedOf 80 = .ok (.aload_n 0, 1) := by decide +kernel
theorem dX1_acceptedOf_81 : decode cX1_acceptedOf 81 = .ok (.getfield 33, 3) := by decide +kernel
theorem dX1_acceptedOf_84 : decode cX1_acceptedOf 84 = .ok (.aload 5, 2) := by decide +kernel
theorem dX1_acceptedOf_86 : decode cX1_acceptedOf 86 = .ok (.getfield 190, 3) := by decide +kernel
theorem dX1_acceptedOf_89 : decode cX1_acceptedOf 89 = .ok (.dup2, 1) := by decide +kernel
theorem dX1_acceptedOf_90 : decode cX1_acceptedOf 90 = .ok (.iaload, 1) := by decide +kernel
theorem dX1_acceptedOf_91 : decode cX1_acceptedOf 91 = .ok (.iload 6, 2) := by decide +kernel
theorem dX1_acceptedOf_93 : decode cX1_acceptedOf 93 = .ok (.isub, 1) := by decide +kernel
theorem dX1_acceptedOf_94 : decode cX1_acceptedOf 94 = .ok (.iastore, 1) := by decide +kernel
theorem dX1_acceptedOf_95 : decode cX1_acceptedOf 95 = .ok (.iload_n 3, 1) := by decide +kernel
theorem dX1_acceptedOf_96 : decode cX1_acceptedOf 96 = .ok (.iconst 1, 1) := by decide +kernel
theorem dX1_acceptedOf_97 : decode cX1_acceptedOf 97 = .ok (.aload 5, 2) := by decide +kernel
theorem dX1_acceptedOf_99 : decode cX1_acceptedOf 99 = .ok (.getfield 128, 3) := by decide +kernel
theorem dX1_acceptedOf_102 : decode cX1_acceptedOf 102 = .ok (.ishl, 1) := by decide +kernel
theorem dX1_acceptedOf_103 : decode cX1_acceptedOf 103 = .ok (.ior, 1) := by decide +kernel
theorem dX1_acceptedOf_104 : decode cX1_acceptedOf 104 = .ok (.istore_n 3, 1) := by decide +kernel
theorem dX1_acceptedOf_105 : decode cX1_acceptedOf 105 = .ok (.iinc 4 1, 3) := by decide +kernel
theorem dX1_acceptedOf_108 : decode cX1_acceptedOf 108 = .ok (.goto (-91), 3) := by decide +kernel
theorem dX1_acceptedOf_111 : decode cX1_acceptedOf 111 = .ok (.iload_n 3, 1) := by decide +kernel
theorem dX1_acceptedOf_112 : decode cX1_acceptedOf 112 = .ok (.ireturn, 1) := by decide +kernel
set_option maxRecDepth 20000 in
theorem ggX1_bestFrom_Jx4a65c_size_8abf5 : GoodIn wsX1_bestFrom wsJx4a65c_size_8abf5 := goodIn_r _ [11, 12, 57, 58, 59] (by decide +kernel) (by decide +kernel)
set_option maxRecDepth 20000 in
theorem gX1_bestFrom_Jx4a65c_size_8abf5 : GoodIn wsX1_bestFrom (wsV RX1 60 RJx4a65c yJx4a65c_size_8abf5 wsJx4a65c_size_8abf5) := goodIn_app (goodIn_of _ (by decide +kernel)) ggX1_bestFrom_Jx4a65c_size_8abf5
set_option maxRecDepth 20000 in
theorem ggX1_bestFrom_Jx4a65c_get_915e3 : GoodIn wsX1_bestFrom wsJx4a65c_get_915e3 := goodIn_r _ [16, 12, 17, 18, 19, 20, 21, 22, 23, 24, 25, 26, 27, 10, 28, 29, 57, 58, 59] (by decide +kernel) (by decide +kernel)
set_option maxRecDepth 20000 in
theorem gX1_bestFrom_Jx4a65c_get_915e3 : GoodIn wsX1_bestFrom (wsV RX1 124 RJx4a65c yJx4a65c_get_915e3 wsJx4a65c_get_915e3) := goodIn_app (goodIn_of _ (by decide +kernel)) ggX1_bestFrom_Jx4a65c_get_915e3
set_option maxRecDepth 20000 in
theorem ggX1_bestFrom_X0_discountOn : GoodIn wsX1_bestFrom wsX0_discountOn := goodIn_r _ [34, 35, 36, 37, 38, 47, 48, 49, 50, 51, 52, 53, 54, 55, 56] (by decide +kernel) (by decide +kernel)
set_option maxRecDepth 20000 in
theorem gX1_bestFrom_X0_discountOn : GoodIn wsX1_bestFrom (wsV RX1 131 RX0 yX0_discountOn wsX0_discountOn) := goodIn_app (goodIn_of _ (by decide +kernel)) ggX1_bestFrom_X0_discountOn
set_option maxRecDepth 20000 in
theorem ggX1_bestFrom_X0_priceOn : GoodIn wsX1_bestFrom wsX0_priceOn := goodIn_r _ [42, 35, 43, 31, 32, 33, 34, 36, 37, 38, 47, 48, 49, 50, 51, 52, 53, 54, 55, 56] (by decide +kernel) (by decide +kernel)
set_option maxRecDepth 20000 in
theorem gX1_bestFrom_X0_priceOn : GoodIn wsX1_bestFrom (wsV RX1 114 RX0 yX0_priceOn wsX0_priceOn) := goodIn_app (goodIn_of _ (by decide +kernel)) ggX1_bestFrom_X0_priceOn
set_option maxRecDepth 20000 in
theorem ggX1_bestFrom_X1_bestFrom : GoodIn wsX1_bestFrom wsX1_bestFrom := goodIn_r _ [0, 1, 2, 3, 4, 5, 6, 7, 8, 9, 10, 11, 12, 13, 14, 15, 16, 17, 18, 19, 20, 21, 22, 23, 24, 25, 26, 27, 28, 29, 30, 31, 32, 33, 34, 35, 36, 37, 38, 39, 40, 41, 42, 43, 44, 45, 46, 47, 48, 49, 50, 51, 52, 53, 54, 55, 56, 57, 58, 59] (by decide +kernel) (by decide +kernel)
set_option maxRecDepth 20000 in
theorem gX1_bestFrom_X1_bestFrom : GoodIn wsX1_bestFrom (va_wsS RX1 140 yX1_bestFrom wsX1_bestFrom) := goodIn_app (goodIn_of _ (by decide +kernel)) ggX1_bestFrom_X1_bestFrom
theorem dX1_bestFrom_0 : decode cX1_bestFrom 0 = .ok (.iload_n 1, 1) := by decide +kernel
theorem dX1_bestFrom_1 : decode cX1_bestFrom 1 = .ok (.aload_n 0, 1) := by decide +kernel
theorem dX1_bestFrom_2 : decode cX1_bestFrom 2 = .ok (.invokevirtual 60, 3) := by decide +kernel
theorem dX1_bestFrom_5 : decode cX1_bestFrom 5 = .ok (.if_icmp .ge 9, 3) := by decide +kernel
theorem dX1_bestFrom_8 : decode cX1_bestFrom 8 = .ok (.iload_n 1, 1) := by decide +kernel
theorem dX1_bestFrom_9 : decode cX1_bestFrom 9 = .ok (.bipush 12, 2) := by decide +kernel
theorem dX1_bestFrom_11 : decode cX1_bestFrom 11 = .ok (.if_icmp .lt 5, 3) := by decide +kernel
theorem dX1_bestFrom_14 : decode cX1_bestFrom 14 = .ok (.iconst 0, 1) := by decide +kernel
theorem dX1_bestFrom_15 : decode cX1_bestFrom 15 = .ok (.ireturn, 1) := by decide +kernel
theorem dX1_bestFrom_16 : decode cX1_bestFrom 16 = .ok (.aload_n 0, 1) := by decide +kernel
theorem dX1_bestFrom_17 : decode cX1_bestFrom 17 = .ok (.iload_n 1, 1) := by decide +kernel
theorem dX1_bestFrom_18 : decode cX1_bestFrom 18 = .ok (.invokevirtual 124, 3) := by decide +kernel
theorem dX1_bestFrom_21 : decode cX1_bestFrom 21 = .ok (.checkcast 68, 3) := by decide +kernel
theorem dX1_bestFrom_24 : decode cX1_bestFrom 24 = .ok (.astore 6, 2) := by decide +kernel
theorem dX1_bestFrom_26 : decode cX1_bestFrom 26 = .ok (.aload 6, 2) := by decide +kernel
theorem dX1_bestFrom_28 : decode cX1_bestFrom 28 = .ok (.iload_n 2, 1) := by decide +kernel
theorem dX1_bestFrom_29 : decode cX1_bestFrom 29 = .ok (.invokevirtual 131, 3) := by decide +kernel
theorem dX1_bestFrom_32 : decode cX1_bestFrom 32 = .ok (.istore 7, 2) := by decide +kernel
theorem dX1_bestFrom_34 : decode cX1_bestFrom 34 = .ok (.aload 6, 2) := by decide +kernel
theorem dX1_bestFrom_36 : decode cX1_bestFrom 36 = .ok (.iload_n 2, 1) := by decide +kernel
theorem dX1_bestFrom_37 : decode cX1_bestFrom 37 = .ok (.invokevirtual 114, 3) := by decide +kernel
theorem dX1_bestFrom_40 : decode cX1_bestFrom 40 = .ok (.istore 8, 2) := by decide +kernel
theorem dX1_bestFrom_42 : decode cX1_bestFrom 42 = .ok (.iload 5, 2) := by decide +kernel
theorem dX1_bestFrom_44 : decode cX1_bestFrom 44 = .ok (.iload 7, 2) := by decide +kernel
theorem dX1_bestFrom_46 : decode cX1_bestFrom 46 = .ok (.isub, 1) := by decide +kernel
theorem dX1_bestFrom_47 : decode cX1_bestFrom 47 = .ok (.istore 9, 2) := by decide +kernel
theorem dX1_bestFrom_49 : decode cX1_bestFrom 49 = .ok (.iconst 0, 1) := by decide +kernel
theorem dX1_bestFrom_50 : decode cX1_bestFrom 50 = .ok (.istore 10, 2) := by decide +kernel
theorem dX1_bestFrom_52 : decode cX1_bestFrom 52 = .ok (.iload 8, 2) := by decide +kernel
theorem dX1_bestFrom_54 : decode cX1_bestFrom 54 = .ok (.iload_n 3, 1) := by decide +kernel
theorem dX1_bestFrom_55 : decode cX1_bestFrom 55 = .ok (.if_icmp .gt 63, 3) := by decide +kernel
theorem dX1_bestFrom_58 : decode cX1_bestFrom 58 = .ok (.iload 8, 2) := by decide +kernel
theorem dX1_bestFrom_60 : decode cX1_bestFrom 60 = .ok (.aload 4, 2) := by decide +kernel
theorem dX1_bestFrom_62 : decode cX1_bestFrom 62 = .ok (.aload 6, 2) := by decide +kernel
theorem dX1_bestFrom_64 : decode cX1_bestFrom 64 = .ok (.getfield 190, 3) := by decide +kernel
theorem dX1_bestFrom_67 : decode cX1_bestFrom 67 = .ok (.iaload, 1) := by decide +kernel
theorem dX1_bestFrom_68 : decode cX1_bestFrom 68 = .ok (.if_icmp .gt 50, 3) := by decide +kernel
theorem dX1_bestFrom_71 : decode cX1_bestFrom 71 = .ok (.aload 4, 2) := by decide +kernel
theorem dX1_bestFrom_73 : decode cX1_bestFrom 73 = .ok (.aload 6, 2) := by decide +kernel
theorem dX1_bestFrom_75 : decode cX1_bestFrom 75 = .ok (.getfield 190, 3) := by decide +kernel
theorem dX1_bestFrom_78 : decode cX1_bestFrom 78 = .ok (.dup2, 1) := by decide +kernel
theorem dX1_bestFrom_79 : decode cX1_bestFrom 79 = .ok (.iaload, 1) := by decide +kernel
theorem dX1_bestFrom_80 : decode cX1_bestFrom 80 = .ok (.iload 8, 2) := by decide +kernel
theorem dX1_bestFrom_82 : decode cX1_bestFrom 82 = .ok (.isub, 1) := by decide +kernel
theorem dX1_bestFrom_83 : decode cX1_bestFrom 83 = .ok (.iastore, 1) := by decide +kernel
theorem dX1_bestFrom_84 : decode cX1_bestFrom 84 = .ok (.iload 7, 2) := by decide +kernel
theorem dX1_bestFrom_86 : decode cX1_bestFrom 86 = .ok (.aload_n 0, 1) := by decide +kernel
theorem dX1_bestFrom_87 : decode cX1_bestFrom 87 = .ok (.iload_n 1, 1) := by decide +kernel
theorem dX1_bestFrom_88 : decode cX1_bestFrom 88 = .ok (.iconst 1, 1) := by decide +kernel
theorem dX1_bestFrom_89 : decode cX1_bestFrom 89 = .ok (.iadd, 1) := by decide +kernel
theorem dX1_bestFrom_90 : decode cX1_bestFrom 90 = .ok (.iload_n 2, 1) := by decide +kernel
theorem dX1_bestFrom_91 : decode cX1_bestFrom 91 = .ok (.iload_n 3, 1) := by decide +kernel
theorem dX1_bestFrom_92 : decode cX1_bestFrom 92 = .ok (.iload 8, 2) := by decide +kernel
theorem dX1_bestFrom_94 : decode cX1_bestFrom 94 = .ok (.isub, 1) := by decide +kernel
theorem dX1_bestFrom_95 : decode cX1_bestFrom 95 = .ok (.aload 4, 2) := by decide +kernel
theorem dX1_bestFrom_97 : decode cX1_bestFrom 97 = .ok (.iload 9, 2) := by decide +kernel
theorem dX1_bestFrom_99 : decode cX1_bestFrom 99 = .ok (.invokestatic 140, 3) := by decide +kernel
theorem dX1_bestFrom_102 : decode cX1_bestFrom 102 = .ok (.iadd, 1) := by decide +kernel
theorem dX1_bestFrom_103 : decode cX1_bestFrom 103 = .ok (.istore 10, 2) := by decide +kernel
theorem dX1_bestFrom_105 : decode cX1_bestFrom 105 = .ok (.aload 4, 2) := by decide +kernel
theorem dX1_bestFrom_107 : decode cX1_bestFrom 107 = .ok (.aload 6, 2) := by decide +kernel
theorem dX1_bestFrom_109 : decode cX1_bestFrom 109 = .ok (.getfield 190, 3) := by decide +kernel
theorem dX1_bestFrom_112 : decode cX1_bestFrom 112 = .ok (.dup2, 1) := by decide +kernel
theorem dX1_bestFrom_113 : decode cX1_bestFrom 113 = .ok (.iaload, 1) := by decide +kernel
theorem dX1_bestFrom_114 : decode cX1_bestFrom 114 = .ok (.iload 8, 2) := by decide +kernel
theorem dX1_bestFrom_116 : decode cX1_bestFrom 116 = .ok (.iadd, 1) := by decide +kernel
theorem dX1_bestFrom_117 : decode cX1_bestFrom 117 = .ok (.iastore, 1) := by decide +kernel
theorem dX1_bestFrom_118 : decode cX1_bestFrom 118 = .ok (.iload 10, 2) := by decide +kernel
theorem dX1_bestFrom_120 : decode cX1_bestFrom 120 = .ok (.iload 9, 2) := by decide +kernel
theorem dX1_bestFrom_122 : decode cX1_bestFrom 122 = .ok (.if_icmp .ge 23, 3) := by decide +kernel
theorem dX1_bestFrom_125 : decode cX1_bestFrom 125 = .ok (.iload 10, 2) := by decide +kernel
theorem dX1_bestFrom_127 : decode cX1_bestFrom 127 = .ok (.aload_n 0, 1) := by decide +kernel
theorem dX1_bestFrom_128 : decode cX1_bestFrom 128 = .ok (.iload_n 1, 1) := by decide +kernel
theorem dX1_bestFrom_129 : decode cX1_bestFrom 129 = .ok (.iconst 1, 1) := by decide +kernel
theorem dX1_bestFrom_130 : decode cX1_bestFrom 130 = .ok (.iadd, 1) := by decide +kernel
theorem dX1_bestFrom_131 : decode cX1_bestFrom 131 = .ok (.iload_n 2, 1) := by decide +kernel
theorem dX1_bestFrom_132 : decode cX1_bestFrom 132 = .ok (.iload_n 3, 1) := by decide +kernel
theorem dX1_bestFrom_133 : decode cX1_bestFrom 133 = .ok (.aload 4, 2) := by decide +kernel
theorem dX1_bestFrom_135 : decode cX1_bestFrom 135 = .ok (.iload 9, 2) := by decide +kernel
theorem dX1_bestFrom_137 : decode cX1_bestFrom 137 = .ok (.invokestatic 140, 3) := by decide +kernel
theorem dX1_bestFrom_140 : decode cX1_bestFrom 140 = .ok (.invokestatic 193, 3) := by decide +kernel
theorem dX1_bestFrom_143 : decode cX1_bestFrom 143 = .ok (.istore 10, 2) := by decide +kernel
theorem dX1_bestFrom_145 : decode cX1_bestFrom 145 = .ok (.iload 10, 2) := by decide +kernel
theorem dX1_bestFrom_147 : decode cX1_bestFrom 147 = .ok (.ireturn, 1) := by decide +kernel
set_option maxRecDepth 20000 in
theorem ggX1_pricesThatCount_Jx4a65c_size_8abf5 : GoodIn wsX1_pricesThatCount wsJx4a65c_size_8abf5 := goodIn_r _ [13, 14, 49, 50, 51] (by decide +kernel) (by decide +kernel)
set_option maxRecDepth 20000 in
theorem gX1_pricesThatCount_Jx4a65c_size_8abf5 : GoodIn wsX1_pricesThatCount (wsV RX1 60 RJx4a65c yJx4a65c_size_8abf5 wsJx4a65c_size_8abf5) := goodIn_app (goodIn_of _ (by decide +kernel)) ggX1_pricesThatCount_Jx4a65c_size_8abf5
set_option maxRecDepth 20000 in
theorem ggX1_pricesThatCount_Jx4a65c_get_915e3 : GoodIn wsX1_pricesThatCount wsJx4a65c_get_915e3 := goodIn_r _ [18, 14, 19, 20, 21, 22, 23, 24, 25, 26, 27, 28, 29, 12, 30, 31, 49, 50, 51] (by decide +kernel) (by decide +kernel)
set_option maxRecDepth 20000 in
theorem gX1_pricesThatCount_Jx4a65c_get_915e3 : GoodIn wsX1_pricesThatCount (wsV RX1 124 RJx4a65c yJx4a65c_get_915e3 wsJx4a65c_get_915e3) := goodIn_app (goodIn_of _ (by decide +kernel)) ggX1_pricesThatCount_Jx4a65c_get_915e3
theorem dX1_pricesThatCount_0 : decode cX1_pricesThatCount 0 = .ok (.iconst 0, 1) := by decide +kernel
theorem dX1_pricesThatCount_1 : decode cX1_pricesThatCount 1 = .ok (.istore_n 3, 1) := by decide +kernel
theorem dX1_pricesThatCount_2 : decode cX1_pricesThatCount 2 = .ok (.iconst 0, 1) := by decide +kernel
theorem dX1_pricesThatCount_3 : decode cX1_pricesThatCount 3 = .ok (.istore 4, 2) := by decide +kernel
theorem dX1_pricesThatCount_5 : decode cX1_pricesThatCount 5 = .ok (.iload 4, 2) := by decide +kernel
theorem dX1_pricesThatCount_7 : decode cX1_pricesThatCount 7 = .ok (.aload_n 0, 1) := by decide +kernel
theorem dX1_pricesThatCount_8 : decode cX1_pricesThatCount 8 = .ok (.getfield 22, 3) := by decide +kernel
theorem dX1_pricesThatCount_11 : decode cX1_pricesThatCount 11 = .ok (.invokevirtual 60, 3) := by decide +kernel
theorem dX1_pricesThatCount_14 : decode cX1_pricesThatCount 14 = .ok (.if_icmp .ge 70, 3) := by decide +kernel
theorem dX1_pricesThatCount_17 : decode cX1_pricesThatCount 17 = .ok (.aload_n 0, 1) := by decide +kernel
theorem dX1_pricesThatCount_18 : decode cX1_pricesThatCount 18 = .ok (.getfield 22, 3) := by decide +kernel
theorem dX1_pricesThatCount_21 : decode cX1_pricesThatCount 21 = .ok (.iload 4, 2) := by decide +kernel
theorem dX1_pricesThatCount_23 : decode cX1_pricesThatCount 23 = .ok (.invokevirtual 124, 3) := by decide +kernel
theorem dX1_pricesThatCount_26 : decode cX1_pricesThatCount 26 = .ok (.checkcast 68, 3) := by decide +kernel
theorem dX1_pricesThatCount_29 : decode cX1_pricesThatCount 29 = .ok (.astore 5, 2) := by decide +kernel
theorem dX1_pricesThatCount_31 : decode cX1_pricesThatCount 31 = .ok (.aload 5, 2) := by decide +kernel
theorem dX1_pricesThatCount_33 : decode cX1_pricesThatCount 33 = .ok (.getfield 147, 3) := by decide +kernel
theorem dX1_pricesThatCount_36 : decode cX1_pricesThatCount 36 = .ok (.iload_n 1, 1) := by decide +kernel
theorem dX1_pricesThatCount_37 : decode cX1_pricesThatCount 37 = .ok (.if_icmp .ne 41, 3) := by decide +kernel
theorem dX1_pricesThatCount_40 : decode cX1_pricesThatCount 40 = .ok (.aload 5, 2) := by decide +kernel
theorem dX1_pricesThatCount_42 : decode cX1_pricesThatCount 42 = .ok (.getfield 190, 3) := by decide +kernel
theorem dX1_pricesThatCount_45 : decode cX1_pricesThatCount 45 = .ok (.iload_n 2, 1) := by decide +kernel
theorem dX1_pricesThatCount_46 : decode cX1_pricesThatCount 46 = .ok (.if_icmp .ne 32, 3) := by decide +kernel
theorem dX1_pricesThatCount_49 : decode cX1_pricesThatCount 49 = .ok (.aload 5, 2) := by decide +kernel
theorem dX1_pricesThatCount_51 : decode cX1_pricesThatCount 51 = .ok (.getfield 81, 3) := by decide +kernel
theorem dX1_pricesThatCount_54 : decode cX1_pricesThatCount 54 = .ok (.iconst 3, 1) := by decide +kernel
theorem dX1_pricesThatCount_55 : decode cX1_pricesThatCount 55 = .ok (.if_icmp .ne 23, 3) := by decide +kernel
theorem dX1_pricesThatCount_58 : decode cX1_pricesThatCount 58 = .ok (.aload 5, 2) := by decide +kernel
theorem dX1_pricesThatCount_60 : decode cX1_pricesThatCount 60 = .ok (.getfield 84, 3) := by decide +kernel
theorem dX1_pricesThatCount_63 : decode cX1_pricesThatCount 63 = .ok (.aload_n 0, 1) := by decide +kernel
theorem dX1_pricesThatCount_64 : decode cX1_pricesThatCount 64 = .ok (.getfield 26, 3) := by decide +kernel
theorem dX1_pricesThatCount_67 : decode cX1_pricesThatCount 67 = .ok (.if_icmp .le 11, 3) := by decide +kernel
theorem dX1_pricesThatCount_70 : decode cX1_pricesThatCount 70 = .ok (.iload_n 3, 1) := by decide +kernel
theorem dX1_pricesThatCount_71 : decode cX1_pricesThatCount 71 = .ok (.aload 5, 2) := by decide +kernel
theorem dX1_pricesThatCount_73 : decode cX1_pricesThatCount 73 = .ok (.getfield 108, 3) := by decide +kernel
theorem dX1_pricesThatCount_76 : decode cX1_pricesThatCount 76 = .ok (.iadd, 1) := by decide +kernel
theorem dX1_pricesThatCount_77 : decode cX1_pricesThatCount 77 = .ok (.istore_n 3, 1) := by decide +kernel
theorem dX1_pricesThatCount_78 : decode cX1_pricesThatCount 78 = .ok (.iinc 4 1, 3) := by decide +kernel
theorem dX1_pricesThatCount_81 : decode cX1_pricesThatCount 81 = .ok (.goto (-76), 3) := by decide +kernel
theorem dX1_pricesThatCount_84 : decode cX1_pricesThatCount 84 = .ok (.iload_n 3, 1) := by decide +kernel
theorem dX1_pricesThatCount_85 : decode cX1_pricesThatCount 85 = .ok (.ireturn, 1) := by decide +kernel
set_option maxRecDepth 20000 in
theorem ggX1_payBillsDueToday_Jx4a65c_size_8abf5 : GoodIn wsX1_payBillsDueToday wsJx4a65c_size_8abf5 := goodIn_r _ [10, 11, 76, 77, 78] (by decide +kernel) (by decide +kernel)
set_option maxRecDepth 20000 in
theorem gX1_payBillsDueToday_Jx4a65c_size_8abf5 : GoodIn wsX1_payBillsDueToday (wsV RX1 60 RJx4a65c yJx4a65c_size_8abf5 wsJx4a65c_size_8abf5) := goodIn_app (goodIn_of _ (by decide +kernel)) ggX1_payBillsDueToday_Jx4a65c_size_8abf5
set_option maxRecDepth 20000 in
theorem ggX1_payBillsDueToday_Jx4a65c_get_915e3 : GoodIn wsX1_payBillsDueToday wsJx4a65c_get_915e3 := goodIn_r _ [15, 11, 16, 17, 18, 19, 20, 21, 22, 23, 24, 25, 26, 9, 27, 28, 76, 77, 78] (by decide +kernel) (by decide +kernel)
set_option maxRecDepth 20000 in
theorem gX1_payBillsDueToday_Jx4a65c_get_915e3 : GoodIn wsX1_payBillsDueToday (wsV RX1 124 RJx4a65c yJx4a65c_get_915e3 wsJx4a65c_get_915e3) := goodIn_app (goodIn_of _ (by decide +kernel)) ggX1_payBillsDueToday_Jx4a65c_get_915e3
set_option maxRecDepth 20000 in
theorem ggX1_payBillsDueToday_X1_payWhenDue : GoodIn wsX1_payBillsDueToday wsX1_payWhenDue := goodIn_ca (goodIn_r _ [33, 3, 34, 35, 36, 37, 32, 38, 39, 40, 41, 42, 43, 44, 45, 46, 47, 48, 49, 50, 51, 52, 53, 54, 55, 56, 57, 58, 66, 67, 68, 69, 70, 71, 72, 73, 74, 75, 59, 60, 61, 62, 63, 64, 65] (by decide +kernel) (by decide +kernel)) (goodIn_sub (fun _ h => List.mem_cons_of_mem _ (List.mem_append_right _ h)) (by decide +kernel))
set_option maxRecDepth 20000 in
theorem gX1_payBillsDueToday_X1_payWhenDue : GoodIn wsX1_payBillsDueToday (wsV RX1 87 RX1 yX1_payWhenDue wsX1_payWhenDue) := goodIn_app (goodIn_of _ (by decide +kernel)) ggX1_payBillsDueToday_X1_payWhenDue
theorem dX1_payBillsDueToday_0 : decode cX1_payBillsDueToday 0 = .ok (.iconst 0, 1) := by decide +kernel
theorem dX1_payBillsDueToday_1 : decode cX1_payBillsDueToday 1 = .ok (.istore_n 1, 1) := by decide +kernel
theorem dX1_payBillsDueToday_2 : decode cX1_payBillsDueToday 2 = .ok (.iconst 0, 1) := by decide +kernel
theorem dX1_payBillsDueToday_3 : decode cX1_payBillsDueToday 3 = .ok (.istore_n 2, 1) := by decide +kernel
theorem dX1_payBillsDueToday_4 : decode cX1_payBillsDueToday 4 = .ok (.iload_n 2, 1) := by decide +kernel
theorem dX1_payBillsDueToday_5 : decode cX1_payBillsDueToday 5 = .ok (.aload_n 0, 1) := by decide +kernel
theorem dX1_payBillsDueToday_6 : decode cX1_payBillsDueToday 6 = .ok (.getfield 22, 3) := by decide +kernel
theorem dX1_payBillsDueToday_9 : decode cX1_payBillsDueToday 9 = .ok (.invokevirtual 60, 3) := by decide +kernel
theorem dX1_payBillsDueToday_12 : decode cX1_payBillsDueToday 12 = .ok (.if_icmp .ge 48, 3) := by decide +kernel
theorem dX1_payBillsDueToday_15 : decode cX1_payBillsDueToday 15 = .ok (.aload_n 0, 1) := by decide +kernel
theorem dX1_payBillsDueToday_16 : decode cX1_payBillsDueToday 16 = .ok (.getfield 22, 3) := by decide +kernel
theorem dX1_payBillsDueToday_19 : decode cX1_payBillsDueToday 19 = .ok (.iload_n 2, 1) := by decide +kernel
theorem dX1_payBillsDueToday_20 : decode cX1_payBillsDueToday 20 = .ok (.invokevirtual 124, 3) := by decide +kernel
theorem dX1_payBillsDueToday_23 : decode cX1_payBillsDueToday 23 = .ok (.checkcast 68, 3) := by decide +kernel
theorem dX1_payBillsDueToday_26 : decode cX1_payBillsDueToday 26 = .ok (.astore_n 3, 1) := by decide +kernel
theorem dX1_payBillsDueToday_27 : decode cX1_payBillsDueToday 27 = .ok (.aload_n 3, 1) := by decide +kernel
theorem dX1_payBillsDueToday_28 : decode cX1_payBillsDueToday 28 = .ok (.getfield 81, 3) := by decide +kernel
theorem dX1_payBillsDueToday_31 : decode cX1_payBillsDueToday 31 = .ok (.iconst 1, 1) := by decide +kernel
theorem dX1_payBillsDueToday_32 : decode cX1_payBillsDueToday 32 = .ok (.if_icmp .ne 22, 3) := by decide +kernel
theorem dX1_payBillsDueToday_35 : decode cX1_payBillsDueToday 35 = .ok (.aload_n 3, 1) := by decide +kernel
theorem dX1_payBillsDueToday_36 : decode cX1_payBillsDueToday 36 = .ok (.getfield 84, 3) := by decide +kernel
theorem dX1_payBillsDueToday_39 : decode cX1_payBillsDueToday 39 = .ok (.aload_n 0, 1) := by decide +kernel
theorem dX1_payBillsDueToday_40 : decode cX1_payBillsDueToday 40 = .ok (.getfield 26, 3) := by decide +kernel
theorem dX1_payBillsDueToday_43 : decode cX1_payBillsDueToday 43 = .ok (.if_icmp .ne 11, 3) := by decide +kernel
theorem dX1_payBillsDueToday_46 : decode cX1_payBillsDueToday 46 = .ok (.aload_n 0, 1) := by decide +kernel
theorem dX1_payBillsDueToday_47 : decode cX1_payBillsDueToday 47 = .ok (.aload_n 3, 1) := by decide +kernel
theorem dX1_payBillsDueToday_48 : decode cX1_payBillsDueToday 48 = .ok (.invokevirtual 87, 3) := by decide +kernel
theorem dX1_payBillsDueToday_51 : decode cX1_payBillsDueToday 51 = .ok (.iinc 1 1, 3) := by decide +kernel
theorem dX1_payBillsDueToday_54 : decode cX1_payBillsDueToday 54 = .ok (.iinc 2 1, 3) := by decide +kernel
theorem dX1_payBillsDueToday_57 : decode cX1_payBillsDueToday 57 = .ok (.goto (-53), 3) := by decide +kernel
theorem dX1_payBillsDueToday_60 : decode cX1_payBillsDueToday 60 = .ok (.iload_n 1, 1) := by decide +kernel
theorem dX1_payBillsDueToday_61 : decode cX1_payBillsDueToday 61 = .ok (.ireturn, 1) := by decide +kernel
set_option maxRecDepth 20000 in
theorem ggX1_payWhenDue_X1_pay : GoodIn wsX1_payWhenDue wsX1_pay := goodIn_ca (goodIn_r _ [7, 8, 9, 10, 11, 12, 13, 14, 15, 16, 17, 18, 6, 19, 20, 21, 22, 23, 24, 25, 26, 27, 28, 29, 30, 31, 32, 33, 34, 35, 36, 37, 38, 39, 40, 41, 42, 43, 44] (by decide +kernel) (by decide +kernel)) (goodIn_sub (fun _ h => List.mem_cons_of_mem _ (List.mem_append_right _ h)) (by decide +kernel))
set_option maxRecDepth 20000 in
theorem gX1_payWhenDue_X1_pay : GoodIn wsX1_payWhenDue (wsV RX1 198 RX1 yX1_pay wsX1_pay) := goodIn_app (goodIn_of _ (by decide +kernel)) ggX1_payWhenDue_X1_pay
theorem dX1_payWhenDue_0 : decode cX1_payWhenDue 0 = .ok (.aload_n 1, 1) := by decide +kernel
theorem dX1_payWhenDue_1 : decode cX1_payWhenDue 1 = .ok (.iconst 4, 1) := by decide +kernel
theorem dX1_payWhenDue_2 : decode cX1_payWhenDue 2 = .ok (.putfield 81, 3) := by decide +kernel
theorem dX1_payWhenDue_5 : decode cX1_payWhenDue 5 = .ok (.aload_n 0, 1) := by decide +kernel
theorem dX1_payWhenDue_6 : decode cX1_payWhenDue 6 = .ok (.aload_n 1, 1) := by decide +kernel
theorem dX1_payWhenDue_7 : decode cX1_payWhenDue 7 = .ok (.aload_n 1, 1) := by decide +kernel
theorem dX1_payWhenDue_8 : decode cX1_payWhenDue 8 = .ok (.getfield 94, 3) := by decide +kernel
theorem dX1_payWhenDue_11 : decode cX1_payWhenDue 11 = .ok (.invokevirtual 198, 3) := by decide +kernel
theorem dX1_payWhenDue_14 : decode cX1_payWhenDue 14 = .ok (.return_, 1) := by decide +kernel
set_option maxRecDepth 20000 in
theorem ggX1_payEarly_X0_priceOn : GoodIn wsX1_payEarly wsX0_priceOn := goodIn_r _ [9, 10, 11, 12, 13, 8, 14, 15, 16, 17, 49, 50, 51, 52, 53, 54, 55, 56, 57, 58] (by decide +kernel) (by decide +kernel)
set_option maxRecDepth 20000 in
theorem gX1_payEarly_X0_priceOn : GoodIn wsX1_payEarly (wsV RX1 114 RX0 yX0_priceOn wsX0_priceOn) := goodIn_app (goodIn_of _ (by decide +kernel)) ggX1_payEarly_X0_priceOn
set_option maxRecDepth 20000 in
theorem ggX1_payEarly_X1_pay : GoodIn wsX1_payEarly wsX1_pay := goodIn_ca (goodIn_r _ [22, 4, 23, 24, 25, 26, 27, 28, 29, 30, 31, 32, 21, 33, 34, 35, 36, 37, 38, 39, 40, 41, 49, 50, 51, 52, 53, 54, 55, 56, 57, 58, 42, 43, 44, 45, 46, 47, 48] (by decide +kernel) (by decide +kernel)) (goodIn_sub (fun _ h => List.mem_cons_of_mem _ (List.mem_append_right _ h)) (by decide +kernel))
set_option maxRecDepth 20000 in
theorem gX1_payEarly_X1_pay : GoodIn wsX1_payEarly (wsV RX1 198 RX1 yX1_pay wsX1_pay) := goodIn_app (goodIn_of _ (by decide +kernel)) ggX1_payEarly_X1_pay
theorem dX1_payEarly_0 : decode cX1_payEarly 0 = .ok (.aload_n 1, 1) := by decide +kernel
theorem dX1_payEarly_1 : decode cX1_payEarly 1 = .ok (.aload_n 0, 1) := by decide +kernel
theorem dX1_payEarly_2 : decode cX1_payEarly 2 = .ok (.getfield 26, 3) := by decide +kernel
theorem dX1_payEarly_5 : decode cX1_payEarly 5 = .ok (.invokevirtual 114, 3) := by decide +kernel
theorem dX1_payEarly_8 : decode cX1_payEarly 8 = .ok (.istore_n 2, 1) := by decide +kernel
theorem dX1_payEarly_9 : decode cX1_payEarly 9 = .ok (.aload_n 1, 1) := by decide +kernel
theorem dX1_payEarly_10 : decode cX1_payEarly 10 = .ok (.iconst 3, 1) := by decide +kernel
theorem dX1_payEarly_11 : decode cX1_payEarly 11 = .ok (.putfield 81, 3) := by decide +kernel
theorem dX1_payEarly_14 : decode cX1_payEarly 14 = .ok (.aload_n 0, 1) := by decide +kernel
theorem dX1_payEarly_15 : decode cX1_payEarly 15 = .ok (.getfield 9, 3) := by decide +kernel
theorem dX1_payEarly_18 : decode cX1_payEarly 18 = .ok (.aload_n 1, 1) := by decide +kernel
theorem dX1_payEarly_19 : decode cX1_payEarly 19 = .ok (.getfield 147, 3) := by decide +kernel
theorem dX1_payEarly_22 : decode cX1_payEarly 22 = .ok (.dup2, 1) := by decide +kernel
theorem dX1_payEarly_23 : decode cX1_payEarly 23 = .ok (.iaload, 1) := by decide +kernel
theorem dX1_payEarly_24 : decode cX1_payEarly 24 = .ok (.iload_n 2, 1) := by decide +kernel
theorem dX1_payEarly_25 : decode cX1_payEarly 25 = .ok (.isub, 1) := by decide +kernel
theorem dX1_payEarly_26 : decode cX1_payEarly 26 = .ok (.iastore, 1) := by decide +kernel
theorem dX1_payEarly_27 : decode cX1_payEarly 27 = .ok (.aload_n 0, 1) := by decide +kernel
theorem dX1_payEarly_28 : decode cX1_payEarly 28 = .ok (.aload_n 1, 1) := by decide +kernel
theorem dX1_payEarly_29 : decode cX1_payEarly 29 = .ok (.iload_n 2, 1) := by decide +kernel
theorem dX1_payEarly_30 : decode cX1_payEarly 30 = .ok (.invokevirtual 198, 3) := by decide +kernel
theorem dX1_payEarly_33 : decode cX1_payEarly 33 = .ok (.return_, 1) := by decide +kernel
set_option maxRecDepth 20000 in
theorem ggX1_pay_X1_pairOf : GoodIn wsX1_pay wsX1_pairOf := goodIn_ca (goodIn_r _ [13, 14, 15, 12, 16, 17, 18, 19, 20, 21] (by decide +kernel) (by decide +kernel)) (goodIn_sub (fun _ h => List.mem_cons_of_mem _ (List.mem_append_right _ h)) (by decide +kernel))
set_option maxRecDepth 20000 in
theorem gX1_pay_X1_pairOf : GoodIn wsX1_pay (va_wsS RX1 52 yX1_pairOf wsX1_pairOf) := goodIn_app (goodIn_of _ (by decide +kernel)) ggX1_pay_X1_pairOf
theorem dX1_pay_0 : decode cX1_pay 0 = .ok (.aload_n 1, 1) := by decide +kernel
theorem dX1_pay_1 : decode cX1_pay 1 = .ok (.getfield 147, 3) := by decide +kernel
theorem dX1_pay_4 : decode cX1_pay 4 = .ok (.aload_n 1, 1) := by decide +kernel
theorem dX1_pay_5 : decode cX1_pay 5 = .ok (.getfield 190, 3) := by decide +kernel
theorem dX1_pay_8 : decode cX1_pay 8 = .ok (.invokestatic 52, 3) := by decide +kernel
theorem dX1_pay_11 : decode cX1_pay 11 = .ok (.istore_n 3, 1) := by decide +kernel
theorem dX1_pay_12 : decode cX1_pay 12 = .ok (.iload_n 2, 1) := by decide +kernel
theorem dX1_pay_13 : decode cX1_pay 13 = .ok (.aload_n 0, 1) := by decide +kernel
theorem dX1_pay_14 : decode cX1_pay 14 = .ok (.getfield 16, 3) := by decide +kernel
theorem dX1_pay_17 : decode cX1_pay 17 = .ok (.iload_n 3, 1) := by decide +kernel
theorem dX1_pay_18 : decode cX1_pay 18 = .ok (.iaload, 1) := by decide +kernel
theorem dX1_pay_19 : decode cX1_pay 19 = .ok (.invokestatic 202, 3) := by decide +kernel
theorem dX1_pay_22 : decode cX1_pay 22 = .ok (.istore 4, 2) := by decide +kernel
theorem dX1_pay_24 : decode cX1_pay 24 = .ok (.aload_n 1, 1) := by decide +kernel
theorem dX1_pay_25 : decode cX1_pay 25 = .ok (.iload_n 2, 1) := by decide +kernel
theorem dX1_pay_26 : decode cX1_pay 26 = .ok (.putfield 108, 3) := by decide +kernel
theorem dX1_pay_29 : decode cX1_pay 29 = .ok (.aload_n 1, 1) := by decide +kernel
theorem dX1_pay_30 : decode cX1_pay 30 = .ok (.iload 4, 2) := by decide +kernel
theorem dX1_pay_32 : decode cX1_pay 32 = .ok (.putfield 111, 3) := by decide +kernel
theorem dX1_pay_35 : decode cX1_pay 35 = .ok (.aload_n 0, 1) := by decide +kernel
theorem dX1_pay_36 : decode cX1_pay 36 = .ok (.getfield 16, 3) := by decide +kernel
theorem dX1_pay_39 : decode cX1_pay 39 = .ok (.iload_n 3, 1) := by decide +kernel
theorem dX1_pay_40 : decode cX1_pay 40 = .ok (.dup2, 1) := by decide +kernel
theorem dX1_pay_41 : decode cX1_pay 41 = .ok (.iaload, 1) := by decide +kernel
theorem dX1_pay_42 : decode cX1_pay 42 = .ok (.iload 4, 2) := by decide +kernel
theorem dX1_pay_44 : decode cX1_pay 44 = .ok (.isub, 1) := by decide +kernel
theorem dX1_pay_45 : decode cX1_pay 45 = .ok (.iastore, 1) := by decide +kernel
theorem dX1_pay_46 : decode cX1_pay 46 = .ok (.return_, 1) := by decide +kernel
set_option maxRecDepth 20000 in
theorem ggX1_noteOnPaid_X1_checkRange : GoodIn wsX1_noteOnPaid wsX1_checkRange := goodIn_ca (goodIn_r _ [11, 12, 13] (by decide +kernel) (by decide +kernel)) (goodIn_sub (fun _ h => List.mem_cons_of_mem _ (List.mem_append_left _ (List.mem_append_right _ h))) (by decide +kernel))
set_option maxRecDepth 20000 in
theorem gX1_noteOnPaid_X1_checkRange : GoodIn wsX1_noteOnPaid (va_wsS RX1 48 yX1_checkRange wsX1_checkRange) := goodIn_app (goodIn_of _ (by decide +kernel)) ggX1_noteOnPaid_X1_checkRange
set_option maxRecDepth 20000 in
theorem ggX1_noteOnPaid_X1_pairOf : GoodIn wsX1_noteOnPaid wsX1_pairOf := goodIn_ca (goodIn_r _ [16, 17, 18, 10, 19, 20, 21, 22, 23, 24] (by decide +kernel) (by decide +kernel)) (goodIn_sub (fun _ h => List.mem_cons_of_mem _ (List.mem_append_right _ h)) (by decide +kernel))
set_option maxRecDepth 20000 in
theorem gX1_noteOnPaid_X1_pairOf : GoodIn wsX1_noteOnPaid (va_wsS RX1 52 yX1_pairOf wsX1_pairOf) := goodIn_app (goodIn_of _ (by decide +kernel)) ggX1_noteOnPaid_X1_pairOf
theorem dX1_noteOnPaid_0 : decode cX1_noteOnPaid 0 = .ok (.aload_n 1, 1) := by decide +kernel
theorem dX1_noteOnPaid_1 : decode cX1_noteOnPaid 1 = .ok (.getfield 94, 3) := by decide +kernel
theorem dX1_noteOnPaid_4 : decode cX1_noteOnPaid 4 = .ok (.iconst 1, 1) := by decide +kernel
theorem dX1_noteOnPaid_5 : decode cX1_noteOnPaid 5 = .ok (.ldc 59, 2) := by decide +kernel
theorem dX1_noteOnPaid_7 : decode cX1_noteOnPaid 7 = .ok (.invokestatic 48, 3) := by decide +kernel
theorem dX1_noteOnPaid_10 : decode cX1_noteOnPaid 10 = .ok (.iload_n 2, 1) := by decide +kernel
theorem dX1_noteOnPaid_11 : decode cX1_noteOnPaid 11 = .ok (.i2l, 1) := by decide +kernel
theorem dX1_noteOnPaid_12 : decode cX1_noteOnPaid 12 = .ok (.aload_n 1, 1) := by decide +kernel
