theorem dX2_plans_66 : decode cX2_plans 66 = .ok (.istore 4, 2) := by decide +kernel
theorem dX2_plans_68 : decode cX2_plans 68 = .ok (.aload_n 0, 1) := by decide +kernel
theorem dX2_plans_69 : decode cX2_plans 69 = .ok (.getfield 13, 3) := by decide +kernel
theorem dX2_plans_72 : decode cX2_plans 72 = .ok (.iload_n 3, 1) := by decide +kernel
theorem dX2_plans_73 : decode cX2_plans 73 = .ok (.iaload, 1) := by decide +kernel
theorem dX2_plans_74 : decode cX2_plans 74 = .ok (.istore 5, 2) := by decide +kernel
theorem dX2_plans_76 : decode cX2_plans 76 = .ok (.iload 4, 2) := by decide +kernel
theorem dX2_plans_78 : decode cX2_plans 78 = .ok (.iload_n 2, 1) := by decide +kernel
theorem dX2_plans_79 : decode cX2_plans 79 = .ok (.if_icmp .gt 47, 3) := by decide +kernel
theorem dX2_plans_82 : decode cX2_plans 82 = .ok (.iload 4, 2) := by decide +kernel
theorem dX2_plans_84 : decode cX2_plans 84 = .ok (.aload_n 0, 1) := by decide +kernel
theorem dX2_plans_85 : decode cX2_plans 85 = .ok (.iload_n 1, 1) := by decide +kernel
theorem dX2_plans_86 : decode cX2_plans 86 = .ok (.iload 5, 2) := by decide +kernel
theorem dX2_plans_88 : decode cX2_plans 88 = .ok (.invokevirtual 114, 3) := by decide +kernel
theorem dX2_plans_91 : decode cX2_plans 91 = .ok (.aload_n 0, 1) := by decide +kernel
theorem dX2_plans_92 : decode cX2_plans 92 = .ok (.getfield 50, 3) := by decide +kernel
theorem dX2_plans_95 : decode cX2_plans 95 = .ok (.iload 5, 2) := by decide +kernel
theorem dX2_plans_97 : decode cX2_plans 97 = .ok (.iaload, 1) := by decide +kernel
theorem dX2_plans_98 : decode cX2_plans 98 = .ok (.isub, 1) := by decide +kernel
theorem dX2_plans_99 : decode cX2_plans 99 = .ok (.if_icmp .gt 27, 3) := by decide +kernel
theorem dX2_plans_102 : decode cX2_plans 102 = .ok (.aload_n 0, 1) := by decide +kernel
theorem dX2_plans_103 : decode cX2_plans 103 = .ok (.getfield 46, 3) := by decide +kernel
theorem dX2_plans_106 : decode cX2_plans 106 = .ok (.iload_n 3, 1) := by decide +kernel
theorem dX2_plans_107 : decode cX2_plans 107 = .ok (.iconst 1, 1) := by decide +kernel
theorem dX2_plans_108 : decode cX2_plans 108 = .ok (.bastore, 1) := by decide +kernel
theorem dX2_plans_109 : decode cX2_plans 109 = .ok (.iload_n 2, 1) := by decide +kernel
theorem dX2_plans_110 : decode cX2_plans 110 = .ok (.iload 4, 2) := by decide +kernel
theorem dX2_plans_112 : decode cX2_plans 112 = .ok (.isub, 1) := by decide +kernel
theorem dX2_plans_113 : decode cX2_plans 113 = .ok (.istore_n 2, 1) := by decide +kernel
theorem dX2_plans_114 : decode cX2_plans 114 = .ok (.aload_n 0, 1) := by decide +kernel
theorem dX2_plans_115 : decode cX2_plans 115 = .ok (.getfield 50, 3) := by decide +kernel
theorem dX2_plans_118 : decode cX2_plans 118 = .ok (.iload 5, 2) := by decide +kernel
theorem dX2_plans_120 : decode cX2_plans 120 = .ok (.dup2, 1) := by decide +kernel
theorem dX2_plans_121 : decode cX2_plans 121 = .ok (.iaload, 1) := by decide +kernel
theorem dX2_plans_122 : decode cX2_plans 122 = .ok (.iload 4, 2) := by decide +kernel
theorem dX2_plans_124 : decode cX2_plans 124 = .ok (.iadd, 1) := by decide +kernel
theorem dX2_plans_125 : decode cX2_plans 125 = .ok (.iastore, 1) := by decide +kernel
theorem dX2_plans_126 : decode cX2_plans 126 = .ok (.aload_n 0, 1) := by decide +kernel
theorem dX2_plans_127 : decode cX2_plans 127 = .ok (.iload_n 1, 1) := by decide +kernel
theorem dX2_plans_128 : decode cX2_plans 128 = .ok (.iload_n 3, 1) := by decide +kernel
theorem dX2_plans_129 : decode cX2_plans 129 = .ok (.invokevirtual 110, 3) := by decide +kernel
theorem dX2_plans_132 : decode cX2_plans 132 = .ok (.istore_n 3, 1) := by decide +kernel
theorem dX2_plans_133 : decode cX2_plans 133 = .ok (.goto (-77), 3) := by decide +kernel
theorem dX2_plans_136 : decode cX2_plans 136 = .ok (.return_, 1) := by decide +kernel
set_option maxRecDepth 20000 in
theorem ggX2_plan_X2_isBuyer : GoodIn wsX2_plan wsX2_isBuyer := goodIn_r _ [6, 7, 8, 5, 9] (by decide +kernel) (by decide +kernel)
set_option maxRecDepth 20000 in
theorem gX2_plan_X2_isBuyer : GoodIn wsX2_plan (va_wsS RX2 65 yX2_isBuyer wsX2_isBuyer) := goodIn_app (goodIn_of _ (by decide +kernel)) ggX2_plan_X2_isBuyer
set_option maxRecDepth 20000 in
theorem ggX2_plan_X2_fails : GoodIn wsX2_plan wsX2_fails := goodIn_r _ [13, 14, 51, 52, 53, 54, 55, 56, 57, 58, 59, 60, 61, 62, 63, 64, 65, 66, 67, 68] (by decide +kernel) (by decide +kernel)
set_option maxRecDepth 20000 in
theorem gX2_plan_X2_fails : GoodIn wsX2_plan (wsV RX2 70 RX2 yX2_fails wsX2_fails) := goodIn_app (goodIn_of _ (by decide +kernel)) ggX2_plan_X2_fails
set_option maxRecDepth 20000 in
theorem ggX2_plan_X2_plans : GoodIn wsX2_plan wsX2_plans := goodIn_r _ [18, 19, 20, 2, 21, 22, 23, 24, 5, 25, 1, 26, 27, 28, 29, 30, 31, 32, 33, 34, 35, 36, 37, 38, 39, 40, 41, 42, 43, 44, 45, 46, 47, 48, 49, 50, 51, 52, 53, 54, 55, 56, 57, 58, 59, 60, 61, 62, 63, 64, 65, 66, 67, 68] (by decide +kernel) (by decide +kernel)
set_option maxRecDepth 20000 in
theorem gX2_plan_X2_plans : GoodIn wsX2_plan (wsV RX2 117 RX2 yX2_plans wsX2_plans) := goodIn_app (goodIn_of _ (by decide +kernel)) ggX2_plan_X2_plans
theorem dX2_plan_0 : decode cX2_plan 0 = .ok (.aload_n 0, 1) := by decide +kernel
theorem dX2_plan_1 : decode cX2_plan 1 = .ok (.iload_n 1, 1) := by decide +kernel
theorem dX2_plan_2 : decode cX2_plan 2 = .ok (.invokestatic 65, 3) := by decide +kernel
theorem dX2_plan_5 : decode cX2_plan 5 = .ok (.ifCond .eq 7, 3) := by decide +kernel
theorem dX2_plan_8 : decode cX2_plan 8 = .ok (.iconst 0, 1) := by decide +kernel
theorem dX2_plan_9 : decode cX2_plan 9 = .ok (.goto 4, 3) := by decide +kernel
theorem dX2_plan_12 : decode cX2_plan 12 = .ok (.iconst 1, 1) := by decide +kernel
theorem dX2_plan_13 : decode cX2_plan 13 = .ok (.invokevirtual 70, 3) := by decide +kernel
theorem dX2_plan_16 : decode cX2_plan 16 = .ok (.ifCond .eq 5, 3) := by decide +kernel
theorem dX2_plan_19 : decode cX2_plan 19 = .ok (.iconst 0, 1) := by decide +kernel
theorem dX2_plan_20 : decode cX2_plan 20 = .ok (.ireturn, 1) := by decide +kernel
theorem dX2_plan_21 : decode cX2_plan 21 = .ok (.aload_n 0, 1) := by decide +kernel
theorem dX2_plan_22 : decode cX2_plan 22 = .ok (.iload_n 1, 1) := by decide +kernel
theorem dX2_plan_23 : decode cX2_plan 23 = .ok (.invokevirtual 117, 3) := by decide +kernel
theorem dX2_plan_26 : decode cX2_plan 26 = .ok (.iconst 0, 1) := by decide +kernel
theorem dX2_plan_27 : decode cX2_plan 27 = .ok (.istore_n 2, 1) := by decide +kernel
theorem dX2_plan_28 : decode cX2_plan 28 = .ok (.iconst 0, 1) := by decide +kernel
theorem dX2_plan_29 : decode cX2_plan 29 = .ok (.istore_n 3, 1) := by decide +kernel
theorem dX2_plan_30 : decode cX2_plan 30 = .ok (.iload_n 3, 1) := by decide +kernel
theorem dX2_plan_31 : decode cX2_plan 31 = .ok (.aload_n 0, 1) := by decide +kernel
theorem dX2_plan_32 : decode cX2_plan 32 = .ok (.getfield 77, 3) := by decide +kernel
theorem dX2_plan_35 : decode cX2_plan 35 = .ok (.if_icmp .ge 28, 3) := by decide +kernel
theorem dX2_plan_38 : decode cX2_plan 38 = .ok (.iload_n 2, 1) := by decide +kernel
theorem dX2_plan_39 : decode cX2_plan 39 = .ok (.aload_n 0, 1) := by decide +kernel
theorem dX2_plan_40 : decode cX2_plan 40 = .ok (.getfield 46, 3) := by decide +kernel
theorem dX2_plan_43 : decode cX2_plan 43 = .ok (.iload_n 3, 1) := by decide +kernel
theorem dX2_plan_44 : decode cX2_plan 44 = .ok (.baload, 1) := by decide +kernel
theorem dX2_plan_45 : decode cX2_plan 45 = .ok (.ifCond .eq 9, 3) := by decide +kernel
theorem dX2_plan_48 : decode cX2_plan 48 = .ok (.iconst 1, 1) := by decide +kernel
theorem dX2_plan_49 : decode cX2_plan 49 = .ok (.iload_n 3, 1) := by decide +kernel
theorem dX2_plan_50 : decode cX2_plan 50 = .ok (.ishl, 1) := by decide +kernel
theorem dX2_plan_51 : decode cX2_plan 51 = .ok (.goto 4, 3) := by decide +kernel
theorem dX2_plan_54 : decode cX2_plan 54 = .ok (.iconst 0, 1) := by decide +kernel
theorem dX2_plan_55 : decode cX2_plan 55 = .ok (.ior, 1) := by decide +kernel
theorem dX2_plan_56 : decode cX2_plan 56 = .ok (.istore_n 2, 1) := by decide +kernel
theorem dX2_plan_57 : decode cX2_plan 57 = .ok (.iinc 3 1, 3) := by decide +kernel
theorem dX2_plan_60 : decode cX2_plan 60 = .ok (.goto (-30), 3) := by decide +kernel
theorem dX2_plan_63 : decode cX2_plan 63 = .ok (.iload_n 2, 1) := by decide +kernel
theorem dX2_plan_64 : decode cX2_plan 64 = .ok (.ireturn, 1) := by decide +kernel
set_option maxRecDepth 20000 in
theorem ggX2_clear_X2_isBuyer : GoodIn wsX2_clear wsX2_isBuyer := goodIn_r _ [6, 7, 8, 5, 9] (by decide +kernel) (by decide +kernel)
set_option maxRecDepth 20000 in
theorem gX2_clear_X2_isBuyer : GoodIn wsX2_clear (va_wsS RX2 65 yX2_isBuyer wsX2_isBuyer) := goodIn_app (goodIn_of _ (by decide +kernel)) ggX2_clear_X2_isBuyer
set_option maxRecDepth 20000 in
theorem ggX2_clear_X2_fails : GoodIn wsX2_clear wsX2_fails := goodIn_r _ [13, 14, 61, 62, 63, 64, 65, 66, 67, 68, 69, 70, 71, 72, 73, 74, 75, 76, 77, 78] (by decide +kernel) (by decide +kernel)
set_option maxRecDepth 20000 in
theorem gX2_clear_X2_fails : GoodIn wsX2_clear (wsV RX2 70 RX2 yX2_fails wsX2_fails) := goodIn_app (goodIn_of _ (by decide +kernel)) ggX2_clear_X2_fails
set_option maxRecDepth 20000 in
theorem ggX2_clear_X2_plans : GoodIn wsX2_clear wsX2_plans := goodIn_r _ [18, 2, 19, 1, 20, 21, 22, 23, 5, 24, 25, 26, 27, 28, 29, 30, 31, 32, 33, 34, 35, 36, 37, 38, 39, 40, 41, 42, 43, 44, 45, 46, 47, 48, 49, 50, 61, 62, 63, 64, 65, 66, 67, 68, 69, 70, 71, 72, 73, 74, 75, 76, 77, 78] (by decide +kernel) (by decide +kernel)
set_option maxRecDepth 20000 in
theorem gX2_clear_X2_plans : GoodIn wsX2_clear (wsV RX2 117 RX2 yX2_plans wsX2_plans) := goodIn_app (goodIn_of _ (by decide +kernel)) ggX2_clear_X2_plans
set_option maxRecDepth 20000 in
theorem ggX2_clear_X2_next : GoodIn wsX2_clear wsX2_next := goodIn_r _ [24, 25, 26, 27, 28, 29, 5, 30, 31, 32, 33, 34, 61, 62, 63, 64, 65, 66, 67, 68, 69, 70, 71, 72, 73, 74, 75, 76, 77, 78] (by decide +kernel) (by decide +kernel)
set_option maxRecDepth 20000 in
theorem gX2_clear_X2_next : GoodIn wsX2_clear (wsV RX2 110 RX2 yX2_next wsX2_next) := goodIn_app (goodIn_of _ (by decide +kernel)) ggX2_clear_X2_next
set_option maxRecDepth 20000 in
theorem ggX2_clear_X2_price : GoodIn wsX2_clear wsX2_price := goodIn_r _ [38, 39, 40, 41, 42, 5, 43, 26, 33, 34, 44, 61, 62, 63, 64, 65, 66, 67, 68, 69, 70, 71, 72, 73, 74, 75, 76, 77, 78] (by decide +kernel) (by decide +kernel)
set_option maxRecDepth 20000 in
theorem gX2_clear_X2_price : GoodIn wsX2_clear (wsV RX2 104 RX2 yX2_price wsX2_price) := goodIn_app (goodIn_of _ (by decide +kernel)) ggX2_clear_X2_price
set_option maxRecDepth 20000 in
theorem ggX2_clear_X2_discount : GoodIn wsX2_clear wsX2_discount := goodIn_r _ [43, 39, 26, 33, 34, 44, 61, 62, 63, 64, 65, 66, 67, 68, 69, 70, 71, 72, 73, 74, 75, 76, 77, 78] (by decide +kernel) (by decide +kernel)
set_option maxRecDepth 20000 in
theorem gX2_clear_X2_discount : GoodIn wsX2_clear (wsV RX2 101 RX2 yX2_discount wsX2_discount) := goodIn_app (goodIn_of _ (by decide +kernel)) ggX2_clear_X2_discount
set_option maxRecDepth 20000 in
theorem ggX2_clear_X2_pays : GoodIn wsX2_clear wsX2_pays := goodIn_r _ [54, 55, 50, 56, 32, 57, 58, 59, 5, 60, 31, 20, 61, 62, 63, 64, 65, 66, 67, 68, 69, 70, 71, 72, 73, 74, 75, 76, 77, 78] (by decide +kernel) (by decide +kernel)
set_option maxRecDepth 20000 in
theorem gX2_clear_X2_pays : GoodIn wsX2_clear (wsV RX2 91 RX2 yX2_pays wsX2_pays) := goodIn_app (goodIn_of _ (by decide +kernel)) ggX2_clear_X2_pays
theorem dX2_clear_0 : decode cX2_clear 0 = .ok (.aload_n 0, 1) := by decide +kernel
theorem dX2_clear_1 : decode cX2_clear 1 = .ok (.iload_n 1, 1) := by decide +kernel
theorem dX2_clear_2 : decode cX2_clear 2 = .ok (.invokestatic 65, 3) := by decide +kernel
theorem dX2_clear_5 : decode cX2_clear 5 = .ok (.ifCond .eq 7, 3) := by decide +kernel
theorem dX2_clear_8 : decode cX2_clear 8 = .ok (.iconst 0, 1) := by decide +kernel
theorem dX2_clear_9 : decode cX2_clear 9 = .ok (.goto 4, 3) := by decide +kernel
theorem dX2_clear_12 : decode cX2_clear 12 = .ok (.iconst 1, 1) := by decide +kernel
theorem dX2_clear_13 : decode cX2_clear 13 = .ok (.invokevirtual 70, 3) := by decide +kernel
theorem dX2_clear_16 : decode cX2_clear 16 = .ok (.ifCond .eq 5, 3) := by decide +kernel
theorem dX2_clear_19 : decode cX2_clear 19 = .ok (.iconst 0, 1) := by decide +kernel
theorem dX2_clear_20 : decode cX2_clear 20 = .ok (.ireturn, 1) := by decide +kernel
theorem dX2_clear_21 : decode cX2_clear 21 = .ok (.aload_n 0, 1) := by decide +kernel
theorem dX2_clear_22 : decode cX2_clear 22 = .ok (.iload_n 1, 1) := by decide +kernel
theorem dX2_clear_23 : decode cX2_clear 23 = .ok (.invokevirtual 117, 3) := by decide +kernel
theorem dX2_clear_26 : decode cX2_clear 26 = .ok (.iconst 0, 1) := by decide +kernel
theorem dX2_clear_27 : decode cX2_clear 27 = .ok (.istore_n 2, 1) := by decide +kernel
theorem dX2_clear_28 : decode cX2_clear 28 = .ok (.aload_n 0, 1) := by decide +kernel
theorem dX2_clear_29 : decode cX2_clear 29 = .ok (.iload_n 1, 1) := by decide +kernel
theorem dX2_clear_30 : decode cX2_clear 30 = .ok (.iconst (-1), 1) := by decide +kernel
theorem dX2_clear_31 : decode cX2_clear 31 = .ok (.invokevirtual 110, 3) := by decide +kernel
theorem dX2_clear_34 : decode cX2_clear 34 = .ok (.istore_n 3, 1) := by decide +kernel
theorem dX2_clear_35 : decode cX2_clear 35 = .ok (.iload_n 3, 1) := by decide +kernel
theorem dX2_clear_36 : decode cX2_clear 36 = .ok (.iconst (-1), 1) := by decide +kernel
theorem dX2_clear_37 : decode cX2_clear 37 = .ok (.if_icmp .eq 60, 3) := by decide +kernel
theorem dX2_clear_40 : decode cX2_clear 40 = .ok (.aload_n 0, 1) := by decide +kernel
theorem dX2_clear_41 : decode cX2_clear 41 = .ok (.iload_n 1, 1) := by decide +kernel
theorem dX2_clear_42 : decode cX2_clear 42 = .ok (.iload_n 3, 1) := by decide +kernel
theorem dX2_clear_43 : decode cX2_clear 43 = .ok (.invokevirtual 110, 3) := by decide +kernel
theorem dX2_clear_46 : decode cX2_clear 46 = .ok (.istore 4, 2) := by decide +kernel
theorem dX2_clear_48 : decode cX2_clear 48 = .ok (.aload_n 0, 1) := by decide +kernel
theorem dX2_clear_49 : decode cX2_clear 49 = .ok (.getfield 46, 3) := by decide +kernel
theorem dX2_clear_52 : decode cX2_clear 52 = .ok (.iload_n 3, 1) := by decide +kernel
theorem dX2_clear_53 : decode cX2_clear 53 = .ok (.baload, 1) := by decide +kernel
theorem dX2_clear_54 : decode cX2_clear 54 = .ok (.ifCond .eq 37, 3) := by decide +kernel
theorem dX2_clear_57 : decode cX2_clear 57 = .ok (.aload_n 0, 1) := by decide +kernel
theorem dX2_clear_58 : decode cX2_clear 58 = .ok (.iload_n 3, 1) := by decide +kernel
theorem dX2_clear_59 : decode cX2_clear 59 = .ok (.invokevirtual 104, 3) := by decide +kernel
theorem dX2_clear_62 : decode cX2_clear 62 = .ok (.istore 5, 2) := by decide +kernel
theorem dX2_clear_64 : decode cX2_clear 64 = .ok (.iload_n 2, 1) := by decide +kernel
theorem dX2_clear_65 : decode cX2_clear 65 = .ok (.aload_n 0, 1) := by decide +kernel
theorem dX2_clear_66 : decode cX2_clear 66 = .ok (.iload_n 3, 1) := by decide +kernel
theorem dX2_clear_67 : decode cX2_clear 67 = .ok (.invokevirtual 101, 3) := by decide +kernel
theorem dX2_clear_70 : decode cX2_clear 70 = .ok (.iadd, 1) := by decide +kernel
theorem dX2_clear_71 : decode cX2_clear 71 = .ok (.istore_n 2, 1) := by decide +kernel
theorem dX2_clear_72 : decode cX2_clear 72 = .ok (.aload_n 0, 1) := by decide +kernel
theorem dX2_clear_73 : decode cX2_clear 73 = .ok (.getfield 37, 3) := by decide +kernel
theorem dX2_clear_76 : decode cX2_clear 76 = .ok (.iload_n 1, 1) := by decide +kernel
theorem dX2_clear_77 : decode cX2_clear 77 = .ok (.dup2, 1) := by decide +kernel
theorem dX2_clear_78 : decode cX2_clear 78 = .ok (.iaload, 1) := by decide +kernel
theorem dX2_clear_79 : decode cX2_clear 79 = .ok (.iload 5, 2) := by decide +kernel
theorem dX2_clear_81 : decode cX2_clear 81 = .ok (.isub, 1) := by decide +kernel
theorem dX2_clear_82 : decode cX2_clear 82 = .ok (.iastore, 1) := by decide +kernel
theorem dX2_clear_83 : decode cX2_clear 83 = .ok (.aload_n 0, 1) := by decide +kernel
theorem dX2_clear_84 : decode cX2_clear 84 = .ok (.iload_n 3, 1) := by decide +kernel
theorem dX2_clear_85 : decode cX2_clear 85 = .ok (.iload 5, 2) := by decide +kernel
theorem dX2_clear_87 : decode cX2_clear 87 = .ok (.iconst 3, 1) := by decide +kernel
theorem dX2_clear_88 : decode cX2_clear 88 = .ok (.invokevirtual 91, 3) := by decide +kernel
theorem dX2_clear_91 : decode cX2_clear 91 = .ok (.iload 4, 2) := by decide +kernel
theorem dX2_clear_93 : decode cX2_clear 93 = .ok (.istore_n 3, 1) := by decide +kernel
theorem dX2_clear_94 : decode cX2_clear 94 = .ok (.goto (-59), 3) := by decide +kernel
theorem dX2_clear_97 : decode cX2_clear 97 = .ok (.iload_n 2, 1) := by decide +kernel
theorem dX2_clear_98 : decode cX2_clear 98 = .ok (.ireturn, 1) := by decide +kernel
set_option maxRecDepth 20000 in
theorem ggX2_most_X2_isBuyer : GoodIn wsX2_most wsX2_isBuyer := goodIn_r _ [6, 7, 8, 5, 9] (by decide +kernel) (by decide +kernel)
set_option maxRecDepth 20000 in
theorem gX2_most_X2_isBuyer : GoodIn wsX2_most (va_wsS RX2 65 yX2_isBuyer wsX2_isBuyer) := goodIn_app (goodIn_of _ (by decide +kernel)) ggX2_most_X2_isBuyer
set_option maxRecDepth 20000 in
theorem ggX2_most_X2_isOffer : GoodIn wsX2_most wsX2_isOffer := goodIn_r _ [13, 14, 15, 16, 17, 18, 47, 48, 49, 50, 51, 52, 53, 54, 55, 56, 57, 58, 59, 60, 61, 62, 63, 64] (by decide +kernel) (by decide +kernel)
set_option maxRecDepth 20000 in
theorem gX2_most_X2_isOffer : GoodIn wsX2_most (wsV RX2 107 RX2 yX2_isOffer wsX2_isOffer) := goodIn_app (goodIn_of _ (by decide +kernel)) ggX2_most_X2_isOffer
set_option maxRecDepth 20000 in
theorem ggX2_most_X2_fails : GoodIn wsX2_most wsX2_fails := goodIn_r _ [22, 23, 47, 48, 49, 50, 51, 52, 53, 54, 55, 56, 57, 58, 59, 60, 61, 62, 63, 64] (by decide +kernel) (by decide +kernel)
set_option maxRecDepth 20000 in
theorem gX2_most_X2_fails : GoodIn wsX2_most (wsV RX2 70 RX2 yX2_fails wsX2_fails) := goodIn_app (goodIn_of _ (by decide +kernel)) ggX2_most_X2_fails
set_option maxRecDepth 20000 in
theorem ggX2_most_X2_brings : GoodIn wsX2_most wsX2_brings := goodIn_r _ [27, 28, 2, 29, 30, 31, 32, 33, 5, 34, 35, 16, 17, 18, 36, 37, 38, 39, 40, 41, 42, 43, 44, 45, 1, 14, 15, 46, 47, 48, 49, 50, 51, 52, 53, 54, 55, 56, 57, 58, 59, 60, 61, 62, 63, 64] (by decide +kernel) (by decide +kernel)
set_option maxRecDepth 20000 in
theorem gX2_most_X2_brings : GoodIn wsX2_most (wsV RX2 121 RX2 yX2_brings wsX2_brings) := goodIn_app (goodIn_of _ (by decide +kernel)) ggX2_most_X2_brings
theorem dX2_most_0 : decode cX2_most 0 = .ok (.iload_n 1, 1) := by decide +kernel
theorem dX2_most_1 : decode cX2_most 1 = .ok (.invokestatic 65, 3) := by decide +kernel
theorem dX2_most_4 : decode cX2_most 4 = .ok (.istore_n 2, 1) := by decide +kernel
theorem dX2_most_5 : decode cX2_most 5 = .ok (.iconst 0, 1) := by decide +kernel
theorem dX2_most_6 : decode cX2_most 6 = .ok (.istore_n 3, 1) := by decide +kernel
theorem dX2_most_7 : decode cX2_most 7 = .ok (.iconst 0, 1) := by decide +kernel
theorem dX2_most_8 : decode cX2_most 8 = .ok (.istore 4, 2) := by decide +kernel
theorem dX2_most_10 : decode cX2_most 10 = .ok (.iload 4, 2) := by decide +kernel
theorem dX2_most_12 : decode cX2_most 12 = .ok (.aload_n 0, 1) := by decide +kernel
theorem dX2_most_13 : decode cX2_most 13 = .ok (.getfield 77, 3) := by decide +kernel
theorem dX2_most_16 : decode cX2_most 16 = .ok (.if_icmp .ge 40, 3) := by decide +kernel
theorem dX2_most_19 : decode cX2_most 19 = .ok (.iload_n 2, 1) := by decide +kernel
theorem dX2_most_20 : decode cX2_most 20 = .ok (.ifCond .eq 36, 3) := by decide +kernel
theorem dX2_most_23 : decode cX2_most 23 = .ok (.aload_n 0, 1) := by decide +kernel
theorem dX2_most_24 : decode cX2_most 24 = .ok (.iload 4, 2) := by decide +kernel
theorem dX2_most_26 : decode cX2_most 26 = .ok (.iload_n 1, 1) := by decide +kernel
theorem dX2_most_27 : decode cX2_most 27 = .ok (.invokevirtual 107, 3) := by decide +kernel
theorem dX2_most_30 : decode cX2_most 30 = .ok (.ifCond .eq 20, 3) := by decide +kernel
theorem dX2_most_33 : decode cX2_most 33 = .ok (.iload_n 3, 1) := by decide +kernel
theorem dX2_most_34 : decode cX2_most 34 = .ok (.bipush 12, 2) := by decide +kernel
theorem dX2_most_36 : decode cX2_most 36 = .ok (.if_icmp .ge 11, 3) := by decide +kernel
theorem dX2_most_39 : decode cX2_most 39 = .ok (.aload_n 0, 1) := by decide +kernel
theorem dX2_most_40 : decode cX2_most 40 = .ok (.getfield 53, 3) := by decide +kernel
theorem dX2_most_43 : decode cX2_most 43 = .ok (.iload_n 3, 1) := by decide +kernel
theorem dX2_most_44 : decode cX2_most 44 = .ok (.iload 4, 2) := by decide +kernel
theorem dX2_most_46 : decode cX2_most 46 = .ok (.iastore, 1) := by decide +kernel
theorem dX2_most_47 : decode cX2_most 47 = .ok (.iinc 3 1, 3) := by decide +kernel
theorem dX2_most_50 : decode cX2_most 50 = .ok (.iinc 4 1, 3) := by decide +kernel
theorem dX2_most_53 : decode cX2_most 53 = .ok (.goto (-43), 3) := by decide +kernel
theorem dX2_most_56 : decode cX2_most 56 = .ok (.aload_n 0, 1) := by decide +kernel
theorem dX2_most_57 : decode cX2_most 57 = .ok (.iload_n 2, 1) := by decide +kernel
theorem dX2_most_58 : decode cX2_most 58 = .ok (.ifCond .ne 7, 3) := by decide +kernel
theorem dX2_most_61 : decode cX2_most 61 = .ok (.iconst 1, 1) := by decide +kernel
theorem dX2_most_62 : decode cX2_most 62 = .ok (.goto 14, 3) := by decide +kernel
theorem dX2_most_65 : decode cX2_most 65 = .ok (.iload_n 3, 1) := by decide +kernel
theorem dX2_most_66 : decode cX2_most 66 = .ok (.bipush 12, 2) := by decide +kernel
theorem dX2_most_68 : decode cX2_most 68 = .ok (.if_icmp .le 7, 3) := by decide +kernel
theorem dX2_most_71 : decode cX2_most 71 = .ok (.iconst 2, 1) := by decide +kernel
theorem dX2_most_72 : decode cX2_most 72 = .ok (.goto 4, 3) := by decide +kernel
theorem dX2_most_75 : decode cX2_most 75 = .ok (.iconst 0, 1) := by decide +kernel
theorem dX2_most_76 : decode cX2_most 76 = .ok (.invokevirtual 70, 3) := by decide +kernel
theorem dX2_most_79 : decode cX2_most 79 = .ok (.ifCond .eq 5, 3) := by decide +kernel
theorem dX2_most_82 : decode cX2_most 82 = .ok (.iconst 0, 1) := by decide +kernel
theorem dX2_most_83 : decode cX2_most 83 = .ok (.ireturn, 1) := by decide +kernel
theorem dX2_most_84 : decode cX2_most 84 = .ok (.iconst 0, 1) := by decide +kernel
theorem dX2_most_85 : decode cX2_most 85 = .ok (.istore 4, 2) := by decide +kernel
theorem dX2_most_87 : decode cX2_most 87 = .ok (.iconst 1, 1) := by decide +kernel
theorem dX2_most_88 : decode cX2_most 88 = .ok (.istore 5, 2) := by decide +kernel
theorem dX2_most_90 : decode cX2_most 90 = .ok (.iload 5, 2) := by decide +kernel
theorem dX2_most_92 : decode cX2_most 92 = .ok (.iconst 1, 1) := by decide +kernel
theorem dX2_most_93 : decode cX2_most 93 = .ok (.iload_n 3, 1) := by decide +kernel
theorem dX2_most_94 : decode cX2_most 94 = .ok (.ishl, 1) := by decide +kernel
theorem dX2_most_95 : decode cX2_most 95 = .ok (.if_icmp .ge 35, 3) := by decide +kernel
theorem dX2_most_98 : decode cX2_most 98 = .ok (.aload_n 0, 1) := by decide +kernel
theorem dX2_most_99 : decode cX2_most 99 = .ok (.iload_n 1, 1) := by decide +kernel
theorem dX2_most_100 : decode cX2_most 100 = .ok (.iload 5, 2) := by decide +kernel
theorem dX2_most_102 : decode cX2_most 102 = .ok (.iload_n 3, 1) := by decide +kernel
theorem dX2_most_103 : decode cX2_most 103 = .ok (.invokevirtual 121, 3) := by decide +kernel
theorem dX2_most_106 : decode cX2_most 106 = .ok (.istore 6, 2) := by decide +kernel
theorem dX2_most_108 : decode cX2_most 108 = .ok (.iload 6, 2) := by decide +kernel
theorem dX2_most_110 : decode cX2_most 110 = .ok (.iload 4, 2) := by decide +kernel
theorem dX2_most_112 : decode cX2_most 112 = .ok (.if_icmp .le 8, 3) := by decide +kernel
theorem dX2_most_115 : decode cX2_most 115 = .ok (.iload 6, 2) := by decide +kernel
theorem dX2_most_117 : decode cX2_most 117 = .ok (.goto 5, 3) := by decide +kernel
theorem dX2_most_120 : decode cX2_most 120 = .ok (.iload 4, 2) := by decide +kernel
theorem dX2_most_122 : decode cX2_most 122 = .ok (.istore 4, 2) := by decide +kernel
theorem dX2_most_124 : decode cX2_most 124 = .ok (.iinc 5 1, 3) := by decide +kernel
theorem dX2_most_127 : decode cX2_most 127 = .ok (.goto (-37), 3) := by decide +kernel
theorem dX2_most_130 : decode cX2_most 130 = .ok (.iload 4, 2) := by decide +kernel
theorem dX2_most_132 : decode cX2_most 132 = .ok (.ireturn, 1) := by decide +kernel
set_option maxRecDepth 20000 in
theorem ggX2_brings_X2_discount : GoodIn wsX2_brings wsX2_discount := goodIn_r _ [9, 10, 11, 12, 13, 14, 28, 29, 30, 31, 32, 33, 34, 35, 36, 37, 38, 39, 40, 41, 42, 43, 44, 45] (by decide +kernel) (by decide +kernel)
set_option maxRecDepth 20000 in
theorem gX2_brings_X2_discount : GoodIn wsX2_brings (wsV RX2 101 RX2 yX2_discount wsX2_discount) := goodIn_app (goodIn_of _ (by decide +kernel)) ggX2_brings_X2_discount
set_option maxRecDepth 20000 in
theorem ggX2_brings_X2_price : GoodIn wsX2_brings wsX2_price := goodIn_r _ [18, 10, 5, 6, 7, 8, 9, 11, 12, 13, 14, 28, 29, 30, 31, 32, 33, 34, 35, 36, 37, 38, 39, 40, 41, 42, 43, 44, 45] (by decide +kernel) (by decide +kernel)
set_option maxRecDepth 20000 in
theorem gX2_brings_X2_price : GoodIn wsX2_brings (wsV RX2 104 RX2 yX2_price wsX2_price) := goodIn_app (goodIn_of _ (by decide +kernel)) ggX2_brings_X2_price
set_option maxRecDepth 20000 in
theorem ggX2_brings_X2_leftOf : GoodIn wsX2_brings wsX2_leftOf := goodIn_r _ [22, 23, 24, 25, 3, 26, 12, 13, 27, 28, 29, 30, 31, 32, 33, 34, 35, 36, 37, 38, 39, 40, 41, 42, 43, 44, 45] (by decide +kernel) (by decide +kernel)
set_option maxRecDepth 20000 in
theorem gX2_brings_X2_leftOf : GoodIn wsX2_brings (wsV RX2 114 RX2 yX2_leftOf wsX2_leftOf) := goodIn_app (goodIn_of _ (by decide +kernel)) ggX2_brings_X2_leftOf
theorem dX2_brings_0 : decode cX2_brings 0 = .ok (.iconst 0, 1) := by decide +kernel
theorem dX2_brings_1 : decode cX2_brings 1 = .ok (.istore 4, 2) := by decide +kernel
theorem dX2_brings_3 : decode cX2_brings 3 = .ok (.iconst 0, 1) := by decide +kernel
theorem dX2_brings_4 : decode cX2_brings 4 = .ok (.istore 5, 2) := by decide +kernel
theorem dX2_brings_6 : decode cX2_brings 6 = .ok (.iconst 1, 1) := by decide +kernel
theorem dX2_brings_7 : decode cX2_brings 7 = .ok (.istore 6, 2) := by decide +kernel
theorem dX2_brings_9 : decode cX2_brings 9 = .ok (.iconst 0, 1) := by decide +kernel
theorem dX2_brings_10 : decode cX2_brings 10 = .ok (.istore 7, 2) := by decide +kernel
theorem dX2_brings_12 : decode cX2_brings 12 = .ok (.iload 7, 2) := by decide +kernel
theorem dX2_brings_14 : decode cX2_brings 14 = .ok (.bipush 8, 2) := by decide +kernel
theorem dX2_brings_16 : decode cX2_brings 16 = .ok (.if_icmp .ge 17, 3) := by decide +kernel
theorem dX2_brings_19 : decode cX2_brings 19 = .ok (.aload_n 0, 1) := by decide +kernel
theorem dX2_brings_20 : decode cX2_brings 20 = .ok (.getfield 50, 3) := by decide +kernel
theorem dX2_brings_23 : decode cX2_brings 23 = .ok (.iload 7, 2) := by decide +kernel
theorem dX2_brings_25 : decode cX2_brings 25 = .ok (.iconst 0, 1) := by decide +kernel
theorem dX2_brings_26 : decode cX2_brings 26 = .ok (.iastore, 1) := by decide +kernel
theorem dX2_brings_27 : decode cX2_brings 27 = .ok (.iinc 7 1, 3) := by decide +kernel
theorem dX2_brings_30 : decode cX2_brings 30 = .ok (.goto (-18), 3) := by decide +kernel
theorem dX2_brings_33 : decode cX2_brings 33 = .ok (.iconst 0, 1) := by decide +kernel
theorem dX2_brings_34 : decode cX2_brings 34 = .ok (.istore 7, 2) := by decide +kernel
theorem dX2_brings_36 : decode cX2_brings 36 = .ok (.iload 7, 2) := by decide +kernel
theorem dX2_brings_38 : decode cX2_brings 38 = .ok (.iload_n 3, 1) := by decide +kernel
theorem dX2_brings_39 : decode cX2_brings 39 = .ok (.if_icmp .ge 110, 3) := by decide +kernel
theorem dX2_brings_42 : decode cX2_brings 42 = .ok (.iload_n 2, 1) := by decide +kernel
theorem dX2_brings_43 : decode cX2_brings 43 = .ok (.iload 7, 2) := by decide +kernel
theorem dX2_brings_45 : decode cX2_brings 45 = .ok (.ishr, 1) := by decide +kernel
theorem dX2_brings_46 : decode cX2_brings 46 = .ok (.iconst 1, 1) := by decide +kernel
theorem dX2_brings_47 : decode cX2_brings 47 = .ok (.iand, 1) := by decide +kernel
theorem dX2_brings_48 : decode cX2_brings 48 = .ok (.iconst 1, 1) := by decide +kernel
theorem dX2_brings_49 : decode cX2_brings 49 = .ok (.if_icmp .ne 94, 3) := by decide +kernel
theorem dX2_brings_52 : decode cX2_brings 52 = .ok (.aload_n 0, 1) := by decide +kernel
theorem dX2_brings_53 : decode cX2_brings 53 = .ok (.getfield 53, 3) := by decide +kernel
theorem dX2_brings_56 : decode cX2_brings 56 = .ok (.iload 7, 2) := by decide +kernel
theorem dX2_brings_58 : decode cX2_brings 58 = .ok (.iaload, 1) := by decide +kernel
theorem dX2_brings_59 : decode cX2_brings 59 = .ok (.istore 8, 2) := by decide +kernel
theorem dX2_brings_61 : decode cX2_brings 61 = .ok (.iload 4, 2) := by decide +kernel
theorem dX2_brings_63 : decode cX2_brings 63 = .ok (.aload_n 0, 1) := by decide +kernel
theorem dX2_brings_64 : decode cX2_brings 64 = .ok (.iload 8, 2) := by decide +kernel
theorem dX2_brings_66 : decode cX2_brings 66 = .ok (.invokevirtual 101, 3) := by decide +kernel
theorem dX2_brings_69 : decode cX2_brings 69 = .ok (.iadd, 1) := by decide +kernel
theorem dX2_brings_70 : decode cX2_brings 70 = .ok (.istore 4, 2) := by decide +kernel
theorem dX2_brings_72 : decode cX2_brings 72 = .ok (.iload 5, 2) := by decide +kernel
theorem dX2_brings_74 : decode cX2_brings 74 = .ok (.aload_n 0, 1) := by decide +kernel
theorem dX2_brings_75 : decode cX2_brings 75 = .ok (.iload 8, 2) := by decide +kernel
theorem dX2_brings_77 : decode cX2_brings 77 = .ok (.invokevirtual 104, 3) := by decide +kernel
theorem dX2_brings_80 : decode cX2_brings 80 = .ok (.iadd, 1) := by decide +kernel
theorem dX2_brings_81 : decode cX2_brings 81 = .ok (.istore 5, 2) := by decide +kernel
theorem dX2_brings_83 : decode cX2_brings 83 = .ok (.aload_n 0, 1) := by decide +kernel
theorem dX2_brings_84 : decode cX2_brings 84 = .ok (.getfield 50, 3) := by decide +kernel
theorem dX2_brings_87 : decode cX2_brings 87 = .ok (.aload_n 0, 1) := by decide +kernel
theorem dX2_brings_88 : decode cX2_brings 88 = .ok (.getfield 13, 3) := by decide +kernel
theorem dX2_brings_91 : decode cX2_brings 91 = .ok (.iload 8, 2) := by decide +kernel
theorem dX2_brings_93 : decode cX2_brings 93 = .ok (.iaload, 1) := by decide +kernel
theorem dX2_brings_94 : decode cX2_brings 94 = .ok (.dup2, 1) := by decide +kernel
theorem dX2_brings_95 : decode cX2_brings 95 = .ok (.iaload, 1) := by decide +kernel
theorem dX2_brings_96 : decode cX2_brings 96 = .ok (.aload_n 0, 1) := by decide +kernel
theorem dX2_brings_97 : decode cX2_brings 97 = .ok (.iload 8, 2) := by decide +kernel
theorem dX2_brings_99 : decode cX2_brings 99 = .ok (.invokevirtual 104, 3) := by decide +kernel
theorem dX2_brings_102 : decode cX2_brings 102 = .ok (.iadd, 1) := by decide +kernel
theorem dX2_brings_103 : decode cX2_brings 103 = .ok (.iastore, 1) := by decide +kernel
theorem dX2_brings_104 : decode cX2_brings 104 = .ok (.iload 6, 2) := by decide +kernel
theorem dX2_brings_106 : decode cX2_brings 106 = .ok (.ifCond .eq 34, 3) := by decide +kernel
theorem dX2_brings_109 : decode cX2_brings 109 = .ok (.aload_n 0, 1) := by decide +kernel
theorem dX2_brings_110 : decode cX2_brings 110 = .ok (.getfield 50, 3) := by decide +kernel
theorem dX2_brings_113 : decode cX2_brings 113 = .ok (.aload_n 0, 1) := by decide +kernel
theorem dX2_brings_114 : decode cX2_brings 114 = .ok (.getfield 13, 3) := by decide +kernel
theorem dX2_brings_117 : decode cX2_brings 117 = .ok (.iload 8, 2) := by decide +kernel
theorem dX2_brings_119 : decode cX2_brings 119 = .ok (.iaload, 1) := by decide +kernel
theorem dX2_brings_120 : decode cX2_brings 120 = .ok (.iaload, 1) := by decide +kernel
theorem dX2_brings_121 : decode cX2_brings 121 = .ok (.aload_n 0, 1) := by decide +kernel
theorem dX2_brings_122 : decode cX2_brings 122 = .ok (.iload_n 1, 1) := by decide +kernel
theorem dX2_brings_123 : decode cX2_brings 123 = .ok (.aload_n 0, 1) := by decide +kernel
theorem dX2_brings_124 : decode cX2_brings 124 = .ok (.getfield 13, 3) := by decide +kernel
theorem dX2_brings_127 : decode cX2_brings 127 = .ok (.iload 8, 2) := by decide +kernel
theorem dX2_brings_129 : decode cX2_brings 129 = .ok (.iaload, 1) := by decide +kernel
theorem dX2_brings_130 : decode cX2_brings 130 = .ok (.invokevirtual 114, 3) := by decide +kernel
theorem dX2_brings_133 : decode cX2_brings 133 = .ok (.if_icmp .gt 7, 3) := by decide +kernel
theorem dX2_brings_136 : decode cX2_brings 136 = .ok (.iconst 1, 1) := by decide +kernel
theorem dX2_brings_137 : decode cX2_brings 137 = .ok (.goto 4, 3) := by decide +kernel
theorem dX2_brings_140 : decode cX2_brings 140 = .ok (.iconst 0, 1) := by decide +kernel
theorem dX2_brings_141 : decode cX2_brings 141 = .ok (.istore 6, 2) := by decide +kernel
theorem dX2_brings_143 : decode cX2_brings 143 = .ok (.iinc 7 1, 3) := by decide +kernel
theorem dX2_brings_146 : decode cX2_brings 146 = .ok (.goto (-110), 3) := by decide +kernel
theorem dX2_brings_149 : decode cX2_brings 149 = .ok (.iload 6, 2) := by decide +kernel
theorem dX2_brings_151 : decode cX2_brings 151 = .ok (.ifCond .eq 19, 3) := by decide +kernel
theorem dX2_brings_154 : decode cX2_brings 154 = .ok (.iload 5, 2) := by decide +kernel
theorem dX2_brings_156 : decode cX2_brings 156 = .ok (.aload_n 0, 1) := by decide +kernel
theorem dX2_brings_157 : decode cX2_brings 157 = .ok (.getfield 37, 3) := by decide +kernel
theorem dX2_brings_160 : decode cX2_brings 160 = .ok (.iload_n 1, 1) := by decide +kernel
theorem dX2_brings_161 : decode cX2_brings 161 = .ok (.iaload, 1) := by decide +kernel
theorem dX2_brings_162 : decode cX2_brings 162 = .ok (.if_icmp .gt 8, 3) := by decide +kernel
theorem dX2_brings_165 : decode cX2_brings 165 = .ok (.iload 4, 2) := by decide +kernel
theorem dX2_brings_167 : decode cX2_brings 167 = .ok (.goto 4, 3) := by decide +kernel
theorem dX2_brings_170 : decode cX2_brings 170 = .ok (.iconst (-1), 1) := by decide +kernel
theorem dX2_brings_171 : decode cX2_brings 171 = .ok (.ireturn, 1) := by decide +kernel
set_option maxRecDepth 20000 in
theorem ggX2_left_X2_isPair : GoodIn wsX2_left wsX2_isPair := goodIn_r _ [4, 5, 6, 3, 7, 8, 9, 10] (by decide +kernel) (by decide +kernel)
set_option maxRecDepth 20000 in
theorem gX2_left_X2_isPair : GoodIn wsX2_left (va_wsS RX2 73 yX2_isPair wsX2_isPair) := goodIn_app (goodIn_of _ (by decide +kernel)) ggX2_left_X2_isPair
set_option maxRecDepth 20000 in
theorem ggX2_left_X2_fails : GoodIn wsX2_left wsX2_fails := goodIn_r _ [14, 15, 28, 29, 30, 31, 32, 33, 34, 35, 36, 37, 38, 39, 40, 41, 42, 43, 44, 45] (by decide +kernel) (by decide +kernel)
set_option maxRecDepth 20000 in
theorem gX2_left_X2_fails : GoodIn wsX2_left (wsV RX2 70 RX2 yX2_fails wsX2_fails) := goodIn_app (goodIn_of _ (by decide +kernel)) ggX2_left_X2_fails
set_option maxRecDepth 20000 in
theorem ggX2_left_X2_leftOf : GoodIn wsX2_left wsX2_leftOf := goodIn_r _ [19, 20, 21, 22, 23, 24, 25, 26, 27, 28, 29, 30, 31, 32, 33, 34, 35, 36, 37, 38, 39, 40, 41, 42, 43, 44, 45] (by decide +kernel) (by decide +kernel)
set_option maxRecDepth 20000 in
theorem gX2_left_X2_leftOf : GoodIn wsX2_left (wsV RX2 114 RX2 yX2_leftOf wsX2_leftOf) := goodIn_app (goodIn_of _ (by decide +kernel)) ggX2_left_X2_leftOf
theorem dX2_left_0 : decode cX2_left 0 = .ok (.aload_n 0, 1) := by decide +kernel
theorem dX2_left_1 : decode cX2_left 1 = .ok (.iload_n 1, 1) := by decide +kernel
theorem dX2_left_2 : decode cX2_left 2 = .ok (.iload_n 2, 1) := by decide +kernel
theorem dX2_left_3 : decode cX2_left 3 = .ok (.invokestatic 73, 3) := by decide +kernel
theorem dX2_left_6 : decode cX2_left 6 = .ok (.ifCond .eq 7, 3) := by decide +kernel
theorem dX2_left_9 : decode cX2_left 9 = .ok (.iconst 0, 1) := by decide +kernel
theorem dX2_left_10 : decode cX2_left 10 = .ok (.goto 4, 3) := by decide +kernel
theorem dX2_left_13 : decode cX2_left 13 = .ok (.iconst 1, 1) := by decide +kernel
theorem dX2_left_14 : decode cX2_left 14 = .ok (.invokevirtual 70, 3) := by decide +kernel
theorem dX2_left_17 : decode cX2_left 17 = .ok (.ifCond .eq 7, 3) := by decide +kernel
theorem dX2_left_20 : decode cX2_left 20 = .ok (.iconst 0, 1) := by decide +kernel
theorem dX2_left_21 : decode cX2_left 21 = .ok (.goto 9, 3) := by decide +kernel
theorem dX2_left_24 : decode cX2_left 24 = .ok (.aload_n 0, 1) := by decide +kernel
theorem dX2_left_25 : decode cX2_left 25 = .ok (.iload_n 1, 1) := by decide +kernel
theorem dX2_left_26 : decode cX2_left 26 = .ok (.iload_n 2, 1) := by decide +kernel
theorem dX2_left_27 : decode cX2_left 27 = .ok (.invokevirtual 114, 3) := by decide +kernel
theorem dX2_left_30 : decode cX2_left 30 = .ok (.ireturn, 1) := by decide +kernel
set_option maxRecDepth 20000 in
theorem ggX2_claim_X2_isPair : GoodIn wsX2_claim wsX2_isPair := goodIn_r _ [5, 6, 7, 4, 8, 9, 10, 11] (by decide +kernel) (by decide +kernel)
set_option maxRecDepth 20000 in
theorem gX2_claim_X2_isPair : GoodIn wsX2_claim (va_wsS RX2 73 yX2_isPair wsX2_isPair) := goodIn_app (goodIn_of _ (by decide +kernel)) ggX2_claim_X2_isPair
set_option maxRecDepth 20000 in
theorem ggX2_claim_X2_fails : GoodIn wsX2_claim wsX2_fails := goodIn_r _ [15, 16, 17, 18, 19, 20, 21, 22, 23, 24, 25, 26, 27, 28, 29, 30, 31, 32, 33, 34] (by decide +kernel) (by decide +kernel)
set_option maxRecDepth 20000 in
theorem gX2_claim_X2_fails : GoodIn wsX2_claim (wsV RX2 70 RX2 yX2_fails wsX2_fails) := goodIn_app (goodIn_of _ (by decide +kernel)) ggX2_claim_X2_fails
theorem dX2_claim_0 : decode cX2_claim 0 = .ok (.aload_n 0, 1) := by decide +kernel
theorem dX2_claim_1 : decode cX2_claim 1 = .ok (.iload_n 1, 1) := by decide +kernel
theorem dX2_claim_2 : decode cX2_claim 2 = .ok (.iload_n 2, 1) := by decide +kernel
theorem dX2_claim_3 : decode cX2_claim 3 = .ok (.invokestatic 73, 3) := by decide +kernel
theorem dX2_claim_6 : decode cX2_claim 6 = .ok (.ifCond .eq 7, 3) := by decide +kernel
theorem dX2_claim_9 : decode cX2_claim 9 = .ok (.iconst 0, 1) := by decide +kernel
theorem dX2_claim_10 : decode cX2_claim 10 = .ok (.goto 4, 3) := by decide +kernel
theorem dX2_claim_13 : decode cX2_claim 13 = .ok (.iconst 1, 1) := by decide +kernel
theorem dX2_claim_14 : decode cX2_claim 14 = .ok (.invokevirtual 70, 3) := by decide +kernel
theorem dX2_claim_17 : decode cX2_claim 17 = .ok (.ifCond .eq 7, 3) := by decide +kernel
theorem dX2_claim_20 : decode cX2_claim 20 = .ok (.iconst 0, 1) := by decide +kernel
theorem dX2_claim_21 : decode cX2_claim 21 = .ok (.goto 14, 3) := by decide +kernel
theorem dX2_claim_24 : decode cX2_claim 24 = .ok (.aload_n 0, 1) := by decide +kernel
theorem dX2_claim_25 : decode cX2_claim 25 = .ok (.getfield 43, 3) := by decide +kernel
theorem dX2_claim_28 : decode cX2_claim 28 = .ok (.bipush 8, 2) := by decide +kernel
theorem dX2_claim_30 : decode cX2_claim 30 = .ok (.iload_n 1, 1) := by decide +kernel
theorem dX2_claim_31 : decode cX2_claim 31 = .ok (.imul, 1) := by decide +kernel
theorem dX2_claim_32 : decode cX2_claim 32 = .ok (.iload_n 2, 1) := by decide +kernel
theorem dX2_claim_33 : decode cX2_claim 33 = .ok (.iadd, 1) := by decide +kernel
theorem dX2_claim_34 : decode cX2_claim 34 = .ok (.iaload, 1) := by decide +kernel
theorem dX2_claim_35 : decode cX2_claim 35 = .ok (.ireturn, 1) := by decide +kernel
set_option maxRecDepth 20000 in
theorem ggX2_averageDiscount_X2_isBuyer : GoodIn wsX2_averageDiscount wsX2_isBuyer := goodIn_r _ [9, 10, 11, 8, 12] (by decide +kernel) (by decide +kernel)
set_option maxRecDepth 20000 in
theorem gX2_averageDiscount_X2_isBuyer : GoodIn wsX2_averageDiscount (va_wsS RX2 65 yX2_isBuyer wsX2_isBuyer) := goodIn_app (goodIn_of _ (by decide +kernel)) ggX2_averageDiscount_X2_isBuyer
set_option maxRecDepth 20000 in
theorem ggX2_averageDiscount_X2_fails : GoodIn wsX2_averageDiscount wsX2_fails := goodIn_r _ [16, 17, 18, 19, 20, 21, 22, 23, 24, 25, 26, 27, 28, 29, 30, 31, 32, 33, 34, 35] (by decide +kernel) (by decide +kernel)
set_option maxRecDepth 20000 in
theorem gX2_averageDiscount_X2_fails : GoodIn wsX2_averageDiscount (wsV RX2 70 RX2 yX2_fails wsX2_fails) := goodIn_app (goodIn_of _ (by decide +kernel)) ggX2_averageDiscount_X2_fails
theorem dX2_averageDiscount_0 : decode cX2_averageDiscount 0 = .ok (.aload_n 0, 1) := by decide +kernel
theorem dX2_averageDiscount_1 : decode cX2_averageDiscount 1 = .ok (.iload_n 1, 1) := by decide +kernel
theorem dX2_averageDiscount_2 : decode cX2_averageDiscount 2 = .ok (.invokestatic 65, 3) := by decide +kernel
theorem dX2_averageDiscount_5 : decode cX2_averageDiscount 5 = .ok (.ifCond .eq 7, 3) := by decide +kernel
theorem dX2_averageDiscount_8 : decode cX2_averageDiscount 8 = .ok (.iconst 0, 1) := by decide +kernel
theorem dX2_averageDiscount_9 : decode cX2_averageDiscount 9 = .ok (.goto 4, 3) := by decide +kernel
theorem dX2_averageDiscount_12 : decode cX2_averageDiscount 12 = .ok (.iconst 1, 1) := by decide +kernel
theorem dX2_averageDiscount_13 : decode cX2_averageDiscount 13 = .ok (.invokevirtual 70, 3) := by decide +kernel
theorem dX2_averageDiscount_16 : decode cX2_averageDiscount 16 = .ok (.ifCond .eq 5, 3) := by decide +kernel
theorem dX2_averageDiscount_19 : decode cX2_averageDiscount 19 = .ok (.fconst 0, 1) := by decide +kernel
theorem dX2_averageDiscount_20 : decode cX2_averageDiscount 20 = .ok (.freturn, 1) := by decide +kernel
theorem dX2_averageDiscount_21 : decode cX2_averageDiscount 21 = .ok (.iconst 0, 1) := by decide +kernel
theorem dX2_averageDiscount_22 : decode cX2_averageDiscount 22 = .ok (.istore_n 2, 1) := by decide +kernel
theorem dX2_averageDiscount_23 : decode cX2_averageDiscount 23 = .ok (.iconst 0, 1) := by decide +kernel
theorem dX2_averageDiscount_24 : decode cX2_averageDiscount 24 = .ok (.istore_n 3, 1) := by decide +kernel
theorem dX2_averageDiscount_25 : decode cX2_averageDiscount 25 = .ok (.iconst 0, 1) := by decide +kernel
theorem dX2_averageDiscount_26 : decode cX2_averageDiscount 26 = .ok (.istore 4, 2) := by decide +kernel
theorem dX2_averageDiscount_28 : decode cX2_averageDiscount 28 = .ok (.iload 4, 2) := by decide +kernel
theorem dX2_averageDiscount_30 : decode cX2_averageDiscount 30 = .ok (.aload_n 0, 1) := by decide +kernel
theorem dX2_averageDiscount_31 : decode cX2_averageDiscount 31 = .ok (.getfield 77, 3) := by decide +kernel
theorem dX2_averageDiscount_34 : decode cX2_averageDiscount 34 = .ok (.if_icmp .ge 84, 3) := by decide +kernel
theorem dX2_averageDiscount_37 : decode cX2_averageDiscount 37 = .ok (.aload_n 0, 1) := by decide +kernel
theorem dX2_averageDiscount_38 : decode cX2_averageDiscount 38 = .ok (.getfield 7, 3) := by decide +kernel
theorem dX2_averageDiscount_41 : decode cX2_averageDiscount 41 = .ok (.iload 4, 2) := by decide +kernel
theorem dX2_averageDiscount_43 : decode cX2_averageDiscount 43 = .ok (.iaload, 1) := by decide +kernel
theorem dX2_averageDiscount_44 : decode cX2_averageDiscount 44 = .ok (.iload_n 1, 1) := by decide +kernel
theorem dX2_averageDiscount_45 : decode cX2_averageDiscount 45 = .ok (.if_icmp .ne 18, 3) := by decide +kernel
theorem dX2_averageDiscount_48 : decode cX2_averageDiscount 48 = .ok (.aload_n 0, 1) := by decide +kernel
theorem dX2_averageDiscount_49 : decode cX2_averageDiscount 49 = .ok (.getfield 22, 3) := by decide +kernel
theorem dX2_averageDiscount_52 : decode cX2_averageDiscount 52 = .ok (.iload 4, 2) := by decide +kernel
theorem dX2_averageDiscount_54 : decode cX2_averageDiscount 54 = .ok (.iaload, 1) := by decide +kernel
theorem dX2_averageDiscount_55 : decode cX2_averageDiscount 55 = .ok (.iconst 3, 1) := by decide +kernel
theorem dX2_averageDiscount_56 : decode cX2_averageDiscount 56 = .ok (.if_icmp .ne 7, 3) := by decide +kernel
theorem dX2_averageDiscount_59 : decode cX2_averageDiscount 59 = .ok (.iconst 1, 1) := by decide +kernel
theorem dX2_averageDiscount_60 : decode cX2_averageDiscount 60 = .ok (.goto 4, 3) := by decide +kernel
theorem dX2_averageDiscount_63 : decode cX2_averageDiscount 63 = .ok (.iconst 0, 1) := by decide +kernel
theorem dX2_averageDiscount_64 : decode cX2_averageDiscount 64 = .ok (.istore 5, 2) := by decide +kernel
theorem dX2_averageDiscount_66 : decode cX2_averageDiscount 66 = .ok (.iload_n 2, 1) := by decide +kernel
theorem dX2_averageDiscount_67 : decode cX2_averageDiscount 67 = .ok (.iload 5, 2) := by decide +kernel
theorem dX2_averageDiscount_69 : decode cX2_averageDiscount 69 = .ok (.ifCond .eq 21, 3) := by decide +kernel
theorem dX2_averageDiscount_72 : decode cX2_averageDiscount 72 = .ok (.aload_n 0, 1) := by decide +kernel
theorem dX2_averageDiscount_73 : decode cX2_averageDiscount 73 = .ok (.getfield 16, 3) := by decide +kernel
theorem dX2_averageDiscount_76 : decode cX2_averageDiscount 76 = .ok (.iload 4, 2) := by decide +kernel
theorem dX2_averageDiscount_78 : decode cX2_averageDiscount 78 = .ok (.iaload, 1) := by decide +kernel
theorem dX2_averageDiscount_79 : decode cX2_averageDiscount 79 = .ok (.aload_n 0, 1) := by decide +kernel
theorem dX2_averageDiscount_80 : decode cX2_averageDiscount 80 = .ok (.getfield 28, 3) := by decide +kernel
theorem dX2_averageDiscount_83 : decode cX2_averageDiscount 83 = .ok (.iload 4, 2) := by decide +kernel
theorem dX2_averageDiscount_85 : decode cX2_averageDiscount 85 = .ok (.iaload, 1) := by decide +kernel
theorem dX2_averageDiscount_86 : decode cX2_averageDiscount 86 = .ok (.isub, 1) := by decide +kernel
theorem dX2_averageDiscount_87 : decode cX2_averageDiscount 87 = .ok (.goto 4, 3) := by decide +kernel
theorem dX2_averageDiscount_90 : decode cX2_averageDiscount 90 = .ok (.iconst 0, 1) := by decide +kernel
theorem dX2_averageDiscount_91 : decode cX2_averageDiscount 91 = .ok (.iadd, 1) := by decide +kernel
theorem dX2_averageDiscount_92 : decode cX2_averageDiscount 92 = .ok (.istore_n 2, 1) := by decide +kernel
theorem dX2_averageDiscount_93 : decode cX2_averageDiscount 93 = .ok (.iload_n 3, 1) := by decide +kernel
theorem dX2_averageDiscount_94 : decode cX2_averageDiscount 94 = .ok (.iload 5, 2) := by decide +kernel
theorem dX2_averageDiscount_96 : decode cX2_averageDiscount 96 = .ok (.ifCond .eq 13, 3) := by decide +kernel
theorem dX2_averageDiscount_99 : decode cX2_averageDiscount 99 = .ok (.aload_n 0, 1) := by decide +kernel
theorem dX2_averageDiscount_100 : decode cX2_averageDiscount 100 = .ok (.getfield 16, 3) := by decide +kernel
theorem dX2_averageDiscount_103 : decode cX2_averageDiscount 103 = .ok (.iload 4, 2) := by decide +kernel
theorem dX2_averageDiscount_105 : decode cX2_averageDiscount 105 = .ok (.iaload, 1) := by decide +kernel
theorem dX2_averageDiscount_106 : decode cX2_averageDiscount 106 = .ok (.goto 4, 3) := by decide +kernel
theorem dX2_averageDiscount_109 : decode cX2_averageDiscount 109 = .ok (.iconst 0, 1) := by decide +kernel
theorem dX2_averageDiscount_110 : decode cX2_averageDiscount 110 = .ok (.iadd, 1) := by decide +kernel
theorem dX2_averageDiscount_111 : decode cX2_averageDiscount 111 = .ok (.istore_n 3, 1) := by decide +kernel
theorem dX2_averageDiscount_112 : decode cX2_averageDiscount 112 = .ok (.iinc 4 1, 3) := by decide +kernel
theorem dX2_averageDiscount_115 : decode cX2_averageDiscount 115 = .ok (.goto (-87), 3) := by decide +kernel
theorem dX2_averageDiscount_118 : decode cX2_averageDiscount 118 = .ok (.aload_n 0, 1) := by decide +kernel
theorem dX2_averageDiscount_119 : decode cX2_averageDiscount 119 = .ok (.iload_n 3, 1) := by decide +kernel
theorem dX2_averageDiscount_120 : decode cX2_averageDiscount 120 = .ok (.ifCond .ne 7, 3) := by decide +kernel
theorem dX2_averageDiscount_123 : decode cX2_averageDiscount 123 = .ok (.iconst 2, 1) := by decide +kernel
theorem dX2_averageDiscount_124 : decode cX2_averageDiscount 124 = .ok (.goto 4, 3) := by decide +kernel
theorem dX2_averageDiscount_127 : decode cX2_averageDiscount 127 = .ok (.iconst 0, 1) := by decide +kernel
theorem dX2_averageDiscount_128 : decode cX2_averageDiscount 128 = .ok (.invokevirtual 70, 3) := by decide +kernel
theorem dX2_averageDiscount_131 : decode cX2_averageDiscount 131 = .ok (.ifCond .eq 7, 3) := by decide +kernel
theorem dX2_averageDiscount_134 : decode cX2_averageDiscount 134 = .ok (.fconst 0, 1) := by decide +kernel
theorem dX2_averageDiscount_135 : decode cX2_averageDiscount 135 = .ok (.goto 8, 3) := by decide +kernel
theorem dX2_averageDiscount_138 : decode cX2_averageDiscount 138 = .ok (.iload_n 2, 1) := by decide +kernel
theorem dX2_averageDiscount_139 : decode cX2_averageDiscount 139 = .ok (.i2f, 1) := by decide +kernel
theorem dX2_averageDiscount_140 : decode cX2_averageDiscount 140 = .ok (.iload_n 3, 1) := by decide +kernel
theorem dX2_averageDiscount_141 : decode cX2_averageDiscount 141 = .ok (.i2f, 1) := by decide +kernel
theorem dX2_averageDiscount_142 : decode cX2_averageDiscount 142 = .ok (.fdiv, 1) := by decide +kernel
theorem dX2_averageDiscount_143 : decode cX2_averageDiscount 143 = .ok (.freturn, 1) := by decide +kernel
set_option maxRecDepth 20000 in
theorem ggX2_pass_X2_isIn : GoodIn wsX2_pass wsX2_isIn := goodIn_r _ [9] (by decide +kernel) (by decide +kernel)
set_option maxRecDepth 20000 in
theorem gX2_pass_X2_isIn : GoodIn wsX2_pass (va_wsS RX2 61 yX2_isIn wsX2_isIn) := goodIn_app (goodIn_of _ (by decide +kernel)) ggX2_pass_X2_isIn
set_option maxRecDepth 20000 in
theorem ggX2_pass_X2_fails : GoodIn wsX2_pass wsX2_fails := goodIn_r _ [13, 14, 28, 29, 30, 31, 32, 33, 34, 35, 36, 37, 38, 39, 40, 41, 42, 43, 44, 45] (by decide +kernel) (by decide +kernel)
set_option maxRecDepth 20000 in
theorem gX2_pass_X2_fails : GoodIn wsX2_pass (wsV RX2 70 RX2 yX2_fails wsX2_fails) := goodIn_app (goodIn_of _ (by decide +kernel)) ggX2_pass_X2_fails
set_option maxRecDepth 20000 in
theorem ggX2_pass_X2_pays : GoodIn wsX2_pass wsX2_pays := goodIn_r _ [18, 19, 20, 21, 3, 22, 23, 24, 8, 25, 26, 27, 28, 29, 30, 31, 32, 33, 34, 35, 36, 37, 38, 39, 40, 41, 42, 43, 44, 45] (by decide +kernel) (by decide +kernel)
set_option maxRecDepth 20000 in
theorem gX2_pass_X2_pays : GoodIn wsX2_pass (wsV RX2 91 RX2 yX2_pays wsX2_pays) := goodIn_app (goodIn_of _ (by decide +kernel)) ggX2_pass_X2_pays
theorem dX2_pass_0 : decode cX2_pass 0 = .ok (.aload_n 0, 1) := by decide +kernel
theorem dX2_pass_1 : decode cX2_pass 1 = .ok (.iload_n 1, 1) := by decide +kernel
theorem dX2_pass_2 : decode cX2_pass 2 = .ok (.iconst 1, 1) := by decide +kernel
theorem dX2_pass_3 : decode cX2_pass 3 = .ok (.sipush 400, 3) := by decide +kernel
theorem dX2_pass_6 : decode cX2_pass 6 = .ok (.invokestatic 61, 3) := by decide +kernel
theorem dX2_pass_9 : decode cX2_pass 9 = .ok (.ifCond .eq 7, 3) := by decide +kernel
theorem dX2_pass_12 : decode cX2_pass 12 = .ok (.iconst 0, 1) := by decide +kernel
theorem dX2_pass_13 : decode cX2_pass 13 = .ok (.goto 4, 3) := by decide +kernel
theorem dX2_pass_16 : decode cX2_pass 16 = .ok (.iconst 1, 1) := by decide +kernel
theorem dX2_pass_17 : decode cX2_pass 17 = .ok (.invokevirtual 70, 3) := by decide +kernel
theorem dX2_pass_20 : decode cX2_pass 20 = .ok (.ifCond .eq 5, 3) := by decide +kernel
theorem dX2_pass_23 : decode cX2_pass 23 = .ok (.iconst 0, 1) := by decide +kernel
theorem dX2_pass_24 : decode cX2_pass 24 = .ok (.ireturn, 1) := by decide +kernel
theorem dX2_pass_25 : decode cX2_pass 25 = .ok (.iconst 0, 1) := by decide +kernel
theorem dX2_pass_26 : decode cX2_pass 26 = .ok (.istore_n 2, 1) := by decide +kernel
theorem dX2_pass_27 : decode cX2_pass 27 = .ok (.iconst 0, 1) := by decide +kernel
theorem dX2_pass_28 : decode cX2_pass 28 = .ok (.istore_n 3, 1) := by decide +kernel
theorem dX2_pass_29 : decode cX2_pass 29 = .ok (.iload_n 3, 1) := by decide +kernel
theorem dX2_pass_30 : decode cX2_pass 30 = .ok (.iload_n 1, 1) := by decide +kernel
theorem dX2_pass_31 : decode cX2_pass 31 = .ok (.if_icmp .ge 79, 3) := by decide +kernel
theorem dX2_pass_34 : decode cX2_pass 34 = .ok (.aload_n 0, 1) := by decide +kernel
theorem dX2_pass_35 : decode cX2_pass 35 = .ok (.dup, 1) := by decide +kernel
theorem dX2_pass_36 : decode cX2_pass 36 = .ok (.getfield 81, 3) := by decide +kernel
theorem dX2_pass_39 : decode cX2_pass 39 = .ok (.iconst 1, 1) := by decide +kernel
theorem dX2_pass_40 : decode cX2_pass 40 = .ok (.iadd, 1) := by decide +kernel
theorem dX2_pass_41 : decode cX2_pass 41 = .ok (.putfield 81, 3) := by decide +kernel
theorem dX2_pass_44 : decode cX2_pass 44 = .ok (.iconst 0, 1) := by decide +kernel
theorem dX2_pass_45 : decode cX2_pass 45 = .ok (.istore 4, 2) := by decide +kernel
theorem dX2_pass_47 : decode cX2_pass 47 = .ok (.iload 4, 2) := by decide +kernel
theorem dX2_pass_49 : decode cX2_pass 49 = .ok (.aload_n 0, 1) := by decide +kernel
theorem dX2_pass_50 : decode cX2_pass 50 = .ok (.getfield 77, 3) := by decide +kernel
theorem dX2_pass_53 : decode cX2_pass 53 = .ok (.if_icmp .ge 51, 3) := by decide +kernel
theorem dX2_pass_56 : decode cX2_pass 56 = .ok (.aload_n 0, 1) := by decide +kernel
theorem dX2_pass_57 : decode cX2_pass 57 = .ok (.getfield 22, 3) := by decide +kernel
theorem dX2_pass_60 : decode cX2_pass 60 = .ok (.iload 4, 2) := by decide +kernel
theorem dX2_pass_62 : decode cX2_pass 62 = .ok (.iaload, 1) := by decide +kernel
theorem dX2_pass_63 : decode cX2_pass 63 = .ok (.iconst 1, 1) := by decide +kernel
theorem dX2_pass_64 : decode cX2_pass 64 = .ok (.if_icmp .ne 34, 3) := by decide +kernel
theorem dX2_pass_67 : decode cX2_pass 67 = .ok (.aload_n 0, 1) := by decide +kernel
theorem dX2_pass_68 : decode cX2_pass 68 = .ok (.getfield 19, 3) := by decide +kernel
theorem dX2_pass_71 : decode cX2_pass 71 = .ok (.iload 4, 2) := by decide +kernel
theorem dX2_pass_73 : decode cX2_pass 73 = .ok (.iaload, 1) := by decide +kernel
theorem dX2_pass_74 : decode cX2_pass 74 = .ok (.aload_n 0, 1) := by decide +kernel
theorem dX2_pass_75 : decode cX2_pass 75 = .ok (.getfield 81, 3) := by decide +kernel
theorem dX2_pass_78 : decode cX2_pass 78 = .ok (.if_icmp .ne 20, 3) := by decide +kernel
theorem dX2_pass_81 : decode cX2_pass 81 = .ok (.aload_n 0, 1) := by decide +kernel
theorem dX2_pass_82 : decode cX2_pass 82 = .ok (.iload 4, 2) := by decide +kernel
theorem dX2_pass_84 : decode cX2_pass 84 = .ok (.aload_n 0, 1) := by decide +kernel
theorem dX2_pass_85 : decode cX2_pass 85 = .ok (.getfield 16, 3) := by decide +kernel
theorem dX2_pass_88 : decode cX2_pass 88 = .ok (.iload 4, 2) := by decide +kernel
theorem dX2_pass_90 : decode cX2_pass 90 = .ok (.iaload, 1) := by decide +kernel
theorem dX2_pass_91 : decode cX2_pass 91 = .ok (.iconst 4, 1) := by decide +kernel
theorem dX2_pass_92 : decode cX2_pass 92 = .ok (.invokevirtual 91, 3) := by decide +kernel
theorem dX2_pass_95 : decode cX2_pass 95 = .ok (.iinc 2 1, 3) := by decide +kernel
theorem dX2_pass_98 : decode cX2_pass 98 = .ok (.iinc 4 1, 3) := by decide +kernel
theorem dX2_pass_101 : decode cX2_pass 101 = .ok (.goto (-54), 3) := by decide +kernel
theorem dX2_pass_104 : decode cX2_pass 104 = .ok (.iinc 3 1, 3) := by decide +kernel
theorem dX2_pass_107 : decode cX2_pass 107 = .ok (.goto (-78), 3) := by decide +kernel
theorem dX2_pass_110 : decode cX2_pass 110 = .ok (.iload_n 2, 1) := by decide +kernel
theorem dX2_pass_111 : decode cX2_pass 111 = .ok (.ireturn, 1) := by decide +kernel
theorem dX2_today_0 : decode cX2_today 0 = .ok (.aload_n 0, 1) := by decide +kernel
theorem dX2_today_1 : decode cX2_today 1 = .ok (.iconst 0, 1) := by decide +kernel
theorem dX2_today_2 : decode cX2_today 2 = .ok (.putfield 57, 3) := by decide +kernel
theorem dX2_today_5 : decode cX2_today 5 = .ok (.aload_n 0, 1) := by decide +kernel
theorem dX2_today_6 : decode cX2_today 6 = .ok (.getfield 81, 3) := by decide +kernel
theorem dX2_today_9 : decode cX2_today 9 = .ok (.ireturn, 1) := by decide +kernel
set_option maxRecDepth 20000 in
theorem ggJ5_init_d00df_J2_newBytesFor_77867 : GoodIn wsJ5_init_d00df wsJ2_newBytesFor_77867 := goodIn_r _ [11, 5, 12, 13, 10, 14, 15] (by decide +kernel) (by decide +kernel)
set_option maxRecDepth 20000 in
theorem gJ5_init_d00df_J2_newBytesFor_77867 : GoodIn wsJ5_init_d00df (va_wsS RJ5 26 yJ2_newBytesFor_77867 wsJ2_newBytesFor_77867) := goodIn_app (goodIn_of _ (by decide +kernel)) ggJ5_init_d00df_J2_newBytesFor_77867
set_option maxRecDepth 20000 in
theorem ggJ5_ensureCapacityInternal_d00df_J5_newCapacity_0f7a4 : GoodIn wsJ5_ensureCapacityInternal_d00df wsJ5_newCapacity_0f7a4 := goodIn_r _ [8, 1, 2, 9, 10, 11, 12, 13, 14, 15, 16, 17, 18, 19, 20, 21, 40, 41, 42, 43] (by decide +kernel) (by decide +kernel)
set_option maxRecDepth 20000 in
theorem gJ5_ensureCapacityInternal_d00df_J5_newCapacity_0f7a4_u104J4 : GoodIn wsJ5_ensureCapacityInternal_d00df (va_wsU RJ5 104 RJ4 "java/lang/AbstractStringBuilder" ⟨"java/lang/AbstractStringBuilder", "newCapacity", "(I)I"⟩ yJ5_newCapacity_0f7a4 wsJ5_newCapacity_0f7a4) := goodIn_app (goodIn_of _ (by decide +kernel)) ggJ5_ensureCapacityInternal_d00df_J5_newCapacity_0f7a4
set_option maxRecDepth 20000 in
theorem ggJ5_ensureCapacityInternal_d00df_J7_copyOf_9075b : GoodIn wsJ5_ensureCapacityInternal_d00df wsJ7_copyOf_9075b := goodIn_r _ [25, 26, 27, 28, 29, 30, 31, 32, 33, 34, 16, 35, 36, 37, 38, 39] (by decide +kernel) (by decide +kernel)
set_option maxRecDepth 20000 in
theorem gJ5_ensureCapacityInternal_d00df_J7_copyOf_9075b : GoodIn wsJ5_ensureCapacityInternal_d00df (va_wsS RJ5 108 yJ7_copyOf_9075b wsJ7_copyOf_9075b) := goodIn_app (goodIn_of _ (by decide +kernel)) ggJ5_ensureCapacityInternal_d00df_J7_copyOf_9075b
set_option maxRecDepth 20000 in
theorem ggJ5_newCapacity_0f7a4_J8_newLength_cabcc : GoodIn wsJ5_newCapacity_0f7a4 wsJ8_newLength_cabcc := goodIn_r _ [7, 8, 9, 10, 11, 12, 13, 14, 6, 15] (by decide +kernel) (by decide +kernel)
set_option maxRecDepth 20000 in
theorem gJ5_newCapacity_0f7a4_J8_newLength_cabcc : GoodIn wsJ5_newCapacity_0f7a4 (va_wsS RJ5 114 yJ8_newLength_cabcc wsJ8_newLength_cabcc) := goodIn_app (goodIn_of _ (by decide +kernel)) ggJ5_newCapacity_0f7a4_J8_newLength_cabcc
set_option maxRecDepth 20000 in
theorem ggJ5_inflate_da8c8_J5_isLatin1_aae02 : GoodIn wsJ5_inflate_da8c8 wsJ5_isLatin1_aae02 := goodIn_r _ [9, 10, 3, 48, 49, 50, 51] (by decide +kernel) (by decide +kernel)
set_option maxRecDepth 20000 in
theorem gJ5_inflate_da8c8_J5_isLatin1_aae02_u83J4 : GoodIn wsJ5_inflate_da8c8 (va_wsU RJ5 83 RJ4 "java/lang/AbstractStringBuilder" ⟨"java/lang/AbstractStringBuilder", "isLatin1", "()Z"⟩ yJ5_isLatin1_aae02 wsJ5_isLatin1_aae02) := goodIn_app (goodIn_of _ (by decide +kernel)) ggJ5_inflate_da8c8_J5_isLatin1_aae02
set_option maxRecDepth 20000 in
theorem ggJ5_inflate_da8c8_J2_newBytesFor_77867 : GoodIn wsJ5_inflate_da8c8 wsJ2_newBytesFor_77867 := goodIn_r _ [14, 15, 16, 17, 13, 18, 19] (by decide +kernel) (by decide +kernel)
set_option maxRecDepth 20000 in
theorem gJ5_inflate_da8c8_J2_newBytesFor_77867 : GoodIn wsJ5_inflate_da8c8 (va_wsS RJ5 26 yJ2_newBytesFor_77867 wsJ2_newBytesFor_77867) := goodIn_app (goodIn_of _ (by decide +kernel)) ggJ5_inflate_da8c8_J2_newBytesFor_77867
set_option maxRecDepth 20000 in
theorem ggJ5_inflate_da8c8_J1_inflate_0e8fd : GoodIn wsJ5_inflate_da8c8 wsJ1_inflate_0e8fd := goodIn_r _ [23, 24, 25, 13, 26, 27, 28, 29, 30, 31, 32, 33, 34, 35, 36, 37, 38, 39, 40, 41, 42, 43, 44, 45, 46, 47] (by decide +kernel) (by decide +kernel)
set_option maxRecDepth 20000 in
theorem gJ5_inflate_da8c8_J1_inflate_0e8fd : GoodIn wsJ5_inflate_da8c8 (va_wsS RJ5 125 yJ1_inflate_0e8fd wsJ1_inflate_0e8fd) := goodIn_app (goodIn_of _ (by decide +kernel)) ggJ5_inflate_da8c8_J1_inflate_0e8fd
set_option maxRecDepth 20000 in
theorem ggJ5_append_cf1ce_J5_appendNull_278bc : GoodIn wsJ5_append_cf1ce wsJ5_appendNull_278bc := goodIn_r _ [7, 1, 8, 9, 10, 11, 12, 6, 13, 14, 15, 16, 17, 18, 19, 20, 21, 22, 23, 24, 25, 26, 27, 28, 29, 30, 31, 32, 33, 34, 35, 36, 37, 38, 39, 40, 41, 42, 43, 44, 45, 46, 47, 48, 49, 50, 51, 52, 53, 54, 55, 56, 57, 58, 59, 60, 61, 62, 63, 64, 65, 66, 67, 68, 69, 70, 71, 72, 73, 74, 75, 76, 77, 78, 79, 80, 81, 138, 139, 140, 141] (by decide +kernel) (by decide +kernel)
set_option maxRecDepth 20000 in
theorem gJ5_append_cf1ce_J5_appendNull_278bc_u204J4 : GoodIn wsJ5_append_cf1ce (va_wsU RJ5 204 RJ4 "java/lang/AbstractStringBuilder" ⟨"java/lang/AbstractStringBuilder", "appendNull", "()Ljava/lang/AbstractStringBuilder;"⟩ yJ5_appendNull_278bc wsJ5_appendNull_278bc) := goodIn_app (goodIn_of _ (by decide +kernel)) ggJ5_append_cf1ce_J5_appendNull_278bc
set_option maxRecDepth 20000 in
theorem ggJ5_append_cf1ce_J0_length_8abf5 : GoodIn wsJ5_append_cf1ce wsJ0_length_8abf5 := goodIn_r _ [85, 86, 87, 88, 89, 70, 90, 91, 92, 142, 143, 144, 145] (by decide +kernel) (by decide +kernel)
set_option maxRecDepth 20000 in
theorem gJ5_append_cf1ce_J0_length_8abf5 : GoodIn wsJ5_append_cf1ce (wsV RJ5 32 RJ0 yJ0_length_8abf5 wsJ0_length_8abf5) := goodIn_app (goodIn_of _ (by decide +kernel)) ggJ5_append_cf1ce_J0_length_8abf5
set_option maxRecDepth 20000 in
theorem ggJ5_append_cf1ce_J5_ensureCapacityInternal_d00df : GoodIn wsJ5_append_cf1ce wsJ5_ensureCapacityInternal_d00df := goodIn_r _ [13, 8, 14, 15, 16, 17, 18, 6, 19, 20, 21, 22, 23, 24, 25, 26, 27, 28, 29, 30, 31, 32, 33, 34, 35, 36, 37, 38, 39, 40, 41, 42, 43, 44, 45, 46, 47, 48, 49, 50, 138, 139, 140, 141] (by decide +kernel) (by decide +kernel)
set_option maxRecDepth 20000 in
theorem gJ5_append_cf1ce_J5_ensureCapacityInternal_d00df_u100J4 : GoodIn wsJ5_append_cf1ce (va_wsU RJ5 100 RJ4 "java/lang/AbstractStringBuilder" ⟨"java/lang/AbstractStringBuilder", "ensureCapacityInternal", "(I)V"⟩ yJ5_ensureCapacityInternal_d00df wsJ5_ensureCapacityInternal_d00df) := goodIn_app (goodIn_of _ (by decide +kernel)) ggJ5_append_cf1ce_J5_ensureCapacityInternal_d00df
set_option maxRecDepth 20000 in
theorem ggJ5_append_cf1ce_J5_putStringAt_47b60 : GoodIn wsJ5_append_cf1ce wsJ5_putStringAt_47b60 := goodIn_r _ [97, 8, 14, 98, 99, 100, 101, 6, 102, 56, 103, 88, 89, 70, 90, 91, 92, 104, 105, 106, 107, 108, 1, 51, 52, 53, 54, 55, 109, 110, 59, 111, 43, 112, 113, 114, 115, 116, 117, 118, 119, 120, 121, 122, 123, 124, 125, 65, 66, 67, 126, 127, 128, 72, 129, 130, 75, 131, 77, 78, 79, 61, 80, 81, 132, 133, 134, 135, 86, 136, 48, 49, 50, 87, 137, 138, 139, 140, 141, 142, 143, 144, 145] (by decide +kernel) (by decide +kernel)
set_option maxRecDepth 20000 in
theorem gJ5_append_cf1ce_J5_putStringAt_47b60_u208J4 : GoodIn wsJ5_append_cf1ce (va_wsU RJ5 208 RJ4 "java/lang/AbstractStringBuilder" ⟨"java/lang/AbstractStringBuilder", "putStringAt", "(ILjava/lang/String;)V"⟩ yJ5_putStringAt_47b60 wsJ5_putStringAt_47b60) := goodIn_app (goodIn_of _ (by decide +kernel)) ggJ5_append_cf1ce_J5_putStringAt_47b60
set_option maxRecDepth 20000 in
theorem ggJ5_appendNull_278bc_J5_ensureCapacityInternal_d00df : GoodIn wsJ5_appendNull_278bc wsJ5_ensureCapacityInternal_d00df := goodIn_r _ [8, 2, 9, 10, 11, 12, 13, 7, 14, 15, 16, 17, 18, 19, 20, 21, 22, 23, 24, 25, 26, 27, 28, 29, 30, 31, 32, 33, 34, 35, 36, 37, 38, 39, 40, 41, 42, 43, 44, 45, 77, 78, 79, 80] (by decide +kernel) (by decide +kernel)
set_option maxRecDepth 20000 in
theorem gJ5_appendNull_278bc_J5_ensureCapacityInternal_d00df_u100J4 : GoodIn wsJ5_appendNull_278bc (va_wsU RJ5 100 RJ4 "java/lang/AbstractStringBuilder" ⟨"java/lang/AbstractStringBuilder", "ensureCapacityInternal", "(I)V"⟩ yJ5_ensureCapacityInternal_d00df wsJ5_ensureCapacityInternal_d00df) := goodIn_app (goodIn_of _ (by decide +kernel)) ggJ5_appendNull_278bc_J5_ensureCapacityInternal_d00df
set_option maxRecDepth 20000 in
theorem ggJ5_appendNull_278bc_J5_isLatin1_aae02 : GoodIn wsJ5_appendNull_278bc wsJ5_isLatin1_aae02 := goodIn_r _ [50, 51, 9, 77, 78, 79, 80] (by decide +kernel) (by decide +kernel)
set_option maxRecDepth 20000 in
theorem gJ5_appendNull_278bc_J5_isLatin1_aae02_u83J4 : GoodIn wsJ5_appendNull_278bc (va_wsU RJ5 83 RJ4 "java/lang/AbstractStringBuilder" ⟨"java/lang/AbstractStringBuilder", "isLatin1", "()Z"⟩ yJ5_isLatin1_aae02 wsJ5_isLatin1_aae02) := goodIn_app (goodIn_of _ (by decide +kernel)) ggJ5_appendNull_278bc_J5_isLatin1_aae02
set_option maxRecDepth 20000 in
theorem ggJ5_appendNull_278bc_J2_putCharsAt_cd4e5 : GoodIn wsJ5_appendNull_278bc wsJ2_putCharsAt_cd4e5 := goodIn_r _ [55, 56, 57, 58, 54, 59, 60, 61, 62, 63, 64, 65, 66, 67, 68, 69, 70, 71, 72, 73, 74, 75, 76] (by decide +kernel) (by decide +kernel)
set_option maxRecDepth 20000 in
theorem gJ5_appendNull_278bc_J2_putCharsAt_cd4e5 : GoodIn wsJ5_appendNull_278bc (va_wsS RJ5 226 yJ2_putCharsAt_cd4e5 wsJ2_putCharsAt_cd4e5) := goodIn_app (goodIn_of _ (by decide +kernel)) ggJ5_appendNull_278bc_J2_putCharsAt_cd4e5
set_option maxRecDepth 20000 in
theorem ggJ5_append_c97b9_J6_stringSize_0f7a4 : GoodIn wsJ5_append_c97b9 wsJ6_stringSize_0f7a4 := goodIn_r _ [6] (by decide +kernel) (by decide +kernel)
set_option maxRecDepth 20000 in
theorem gJ5_append_c97b9_J6_stringSize_0f7a4 : GoodIn wsJ5_append_c97b9 (va_wsS RJ5 245 yJ6_stringSize_0f7a4 wsJ6_stringSize_0f7a4) := goodIn_app (goodIn_of _ (by decide +kernel)) ggJ5_append_c97b9_J6_stringSize_0f7a4
set_option maxRecDepth 20000 in
theorem ggJ5_append_c97b9_J5_ensureCapacityInternal_d00df : GoodIn wsJ5_append_c97b9 wsJ5_ensureCapacityInternal_d00df := goodIn_r _ [12, 2, 13, 14, 15, 16, 17, 11, 18, 19, 20, 21, 22, 23, 24, 25, 26, 27, 28, 29, 30, 31, 32, 33, 34, 35, 36, 37, 38, 39, 40, 41, 42, 43, 44, 45, 46, 47, 48, 49, 91, 92, 93, 94] (by decide +kernel) (by decide +kernel)
set_option maxRecDepth 20000 in
theorem gJ5_append_c97b9_J5_ensureCapacityInternal_d00df_u100J4 : GoodIn wsJ5_append_c97b9 (va_wsU RJ5 100 RJ4 "java/lang/AbstractStringBuilder" ⟨"java/lang/AbstractStringBuilder", "ensureCapacityInternal", "(I)V"⟩ yJ5_ensureCapacityInternal_d00df wsJ5_ensureCapacityInternal_d00df) := goodIn_app (goodIn_of _ (by decide +kernel)) ggJ5_append_c97b9_J5_ensureCapacityInternal_d00df
set_option maxRecDepth 20000 in
theorem ggJ5_append_c97b9_J5_isLatin1_aae02 : GoodIn wsJ5_append_c97b9 wsJ5_isLatin1_aae02 := goodIn_r _ [54, 55, 13, 91, 92, 93, 94] (by decide +kernel) (by decide +kernel)
set_option maxRecDepth 20000 in
theorem gJ5_append_c97b9_J5_isLatin1_aae02_u83J4 : GoodIn wsJ5_append_c97b9 (va_wsU RJ5 83 RJ4 "java/lang/AbstractStringBuilder" ⟨"java/lang/AbstractStringBuilder", "isLatin1", "()Z"⟩ yJ5_isLatin1_aae02 wsJ5_isLatin1_aae02) := goodIn_app (goodIn_of _ (by decide +kernel)) ggJ5_append_c97b9_J5_isLatin1_aae02
set_option maxRecDepth 20000 in
theorem ggJ5_append_c97b9_J6_getChars_ba4f3 : GoodIn wsJ5_append_c97b9 wsJ6_getChars_ba4f3 := goodIn_r _ [58, 59, 60] (by decide +kernel) (by decide +kernel)
set_option maxRecDepth 20000 in
theorem gJ5_append_c97b9_J6_getChars_ba4f3 : GoodIn wsJ5_append_c97b9 (va_wsS RJ5 248 yJ6_getChars_ba4f3 wsJ6_getChars_ba4f3) := goodIn_app (goodIn_of _ (by decide +kernel)) ggJ5_append_c97b9_J6_getChars_ba4f3
set_option maxRecDepth 20000 in
theorem ggJ5_append_c97b9_J2_getChars_46870 : GoodIn wsJ5_append_c97b9 wsJ2_getChars_46870 := goodIn_r _ [64, 65, 66, 67, 63, 68, 69, 70, 71, 72, 73, 74, 75, 76, 77, 78, 79, 80, 81, 82, 83, 84, 85, 86, 87, 88, 89, 90] (by decide +kernel) (by decide +kernel)
set_option maxRecDepth 20000 in
theorem gJ5_append_c97b9_J2_getChars_46870 : GoodIn wsJ5_append_c97b9 (va_wsS RJ5 251 yJ2_getChars_46870 wsJ2_getChars_46870) := goodIn_app (goodIn_of _ (by decide +kernel)) ggJ5_append_c97b9_J2_getChars_46870
set_option maxRecDepth 20000 in
theorem ggJ5_inflateIfNeededFor_a7421_J0_coder_7d493 : GoodIn wsJ5_inflateIfNeededFor_a7421 wsJ0_coder_7d493 := goodIn_r _ [7, 8, 9, 63, 64, 65, 66] (by decide +kernel) (by decide +kernel)
set_option maxRecDepth 20000 in
theorem gJ5_inflateIfNeededFor_a7421_J0_coder_7d493 : GoodIn wsJ5_inflateIfNeededFor_a7421 (wsV RJ5 40 RJ0 yJ0_coder_7d493 wsJ0_coder_7d493) := goodIn_app (goodIn_of _ (by decide +kernel)) ggJ5_inflateIfNeededFor_a7421_J0_coder_7d493
set_option maxRecDepth 20000 in
theorem ggJ5_inflateIfNeededFor_a7421_J5_inflate_da8c8 : GoodIn wsJ5_inflateIfNeededFor_a7421 wsJ5_inflate_da8c8 := goodIn_r _ [15, 16, 17, 2, 18, 19, 20, 21, 14, 22, 1, 23, 24, 25, 26, 27, 28, 29, 30, 31, 32, 33, 34, 35, 36, 37, 38, 39, 40, 41, 42, 43, 44, 45, 46, 6, 47, 48, 49, 50, 51, 52, 53, 54, 55, 56, 57, 58, 59, 60, 61, 62] (by decide +kernel) (by decide +kernel)
set_option maxRecDepth 20000 in
theorem gJ5_inflateIfNeededFor_a7421_J5_inflate_da8c8_u195J4 : GoodIn wsJ5_inflateIfNeededFor_a7421 (va_wsU RJ5 195 RJ4 "java/lang/AbstractStringBuilder" ⟨"java/lang/AbstractStringBuilder", "inflate", "()V"⟩ yJ5_inflate_da8c8 wsJ5_inflate_da8c8) := goodIn_app (goodIn_of _ (by decide +kernel)) ggJ5_inflateIfNeededFor_a7421_J5_inflate_da8c8
set_option maxRecDepth 20000 in
theorem ggJ5_putStringAt_47b60_J5_inflateIfNeededFor_a7421 : GoodIn wsJ5_putStringAt_47b60 wsJ5_inflateIfNeededFor_a7421 := goodIn_r _ [8, 9, 2, 10, 11, 12, 13, 14, 15, 16, 17, 18, 19, 20, 7, 21, 1, 22, 23, 24, 25, 26, 27, 28, 29, 30, 31, 32, 33, 34, 35, 36, 37, 38, 39, 40, 41, 42, 43, 44, 45, 46, 47, 48, 49, 50, 51, 52, 53, 54, 55, 56, 57, 58, 59, 60, 61, 62, 63, 75, 76, 77, 78, 79, 80, 81, 82] (by decide +kernel) (by decide +kernel)
set_option maxRecDepth 20000 in
theorem gJ5_putStringAt_47b60_J5_inflateIfNeededFor_a7421_u397J4 : GoodIn wsJ5_putStringAt_47b60 (va_wsU RJ5 397 RJ4 "java/lang/AbstractStringBuilder" ⟨"java/lang/AbstractStringBuilder", "inflateIfNeededFor", "(Ljava/lang/String;)V"⟩ yJ5_inflateIfNeededFor_a7421 wsJ5_inflateIfNeededFor_a7421) := goodIn_app (goodIn_of _ (by decide +kernel)) ggJ5_putStringAt_47b60_J5_inflateIfNeededFor_a7421
set_option maxRecDepth 20000 in
theorem ggJ5_putStringAt_47b60_J0_getBytes_840e7 : GoodIn wsJ5_putStringAt_47b60 wsJ0_getBytes_840e7 := goodIn_r _ [67, 68, 69, 70, 71, 72, 73, 11, 12, 13, 14, 15, 16, 74, 38, 39, 40, 41, 42, 30, 43, 44, 45, 46, 47, 48, 49, 50, 51, 52, 53, 54, 55, 56, 57, 58, 59, 60, 61, 62, 63, 79, 80, 81, 82] (by decide +kernel) (by decide +kernel)
set_option maxRecDepth 20000 in
theorem gJ5_putStringAt_47b60_J0_getBytes_840e7 : GoodIn wsJ5_putStringAt_47b60 (wsV RJ5 399 RJ0 yJ0_getBytes_840e7 wsJ0_getBytes_840e7) := goodIn_app (goodIn_of _ (by decide +kernel)) ggJ5_putStringAt_47b60_J0_getBytes_840e7
theorem dJ9_max_7cf53_0 : decode cJ9_max_7cf53 0 = .ok (.iload_n 0, 1) := by decide +kernel
theorem dJ9_max_7cf53_1 : decode cJ9_max_7cf53 1 = .ok (.iload_n 1, 1) := by decide +kernel
theorem dJ9_max_7cf53_2 : decode cJ9_max_7cf53 2 = .ok (.if_icmp .lt 7, 3) := by decide +kernel
theorem dJ9_max_7cf53_5 : decode cJ9_max_7cf53 5 = .ok (.iload_n 0, 1) := by decide +kernel
theorem dJ9_max_7cf53_6 : decode cJ9_max_7cf53 6 = .ok (.goto 4, 3) := by decide +kernel
theorem dJ9_max_7cf53_9 : decode cJ9_max_7cf53 9 = .ok (.iload_n 1, 1) := by decide +kernel
theorem dJ9_max_7cf53_10 : decode cJ9_max_7cf53 10 = .ok (.ireturn, 1) := by decide +kernel
theorem dJ9_min_7cf53_0 : decode cJ9_min_7cf53 0 = .ok (.iload_n 0, 1) := by decide +kernel
theorem dJ9_min_7cf53_1 : decode cJ9_min_7cf53 1 = .ok (.iload_n 1, 1) := by decide +kernel
theorem dJ9_min_7cf53_2 : decode cJ9_min_7cf53 2 = .ok (.if_icmp .gt 7, 3) := by decide +kernel
theorem dJ9_min_7cf53_5 : decode cJ9_min_7cf53 5 = .ok (.iload_n 0, 1) := by decide +kernel
theorem dJ9_min_7cf53_6 : decode cJ9_min_7cf53 6 = .ok (.goto 4, 3) := by decide +kernel
theorem dJ9_min_7cf53_9 : decode cJ9_min_7cf53 9 = .ok (.iload_n 1, 1) := by decide +kernel
theorem dJ9_min_7cf53_10 : decode cJ9_min_7cf53 10 = .ok (.ireturn, 1) := by decide +kernel
set_option maxRecDepth 20000 in
theorem ggJ0_init_81219_J0_init_db425 : GoodIn wsJ0_init_81219 wsJ0_init_db425 := goodIn_r _ [4, 5, 6, 7, 8, 9, 10, 11, 12, 13, 14, 15, 16, 17, 18, 19, 20, 21, 22, 23, 24, 25, 26, 27, 28, 29, 30, 31, 32, 33, 34, 35, 36, 37, 38, 39, 40, 41, 42, 43, 44, 45, 46, 47, 48, 49, 50, 51, 52, 53, 54, 55, 56, 57, 58, 59, 60, 61, 62, 63, 64, 65, 66, 67, 68, 69, 70, 71, 72, 73, 74, 75, 76, 77, 78, 79, 3, 80, 81, 82, 83, 84, 85, 86, 87, 88, 89, 90, 91, 92, 93, 94, 95, 96, 97, 98, 99, 100, 101, 102, 103, 104, 105, 106, 107] (by decide +kernel) (by decide +kernel)
set_option maxRecDepth 20000 in
theorem gJ0_init_81219_J0_init_db425 : GoodIn wsJ0_init_81219 (wsJ0_init_db425) := ggJ0_init_81219_J0_init_db425
set_option maxRecDepth 20000 in
theorem ggJ0_length_8abf5_J0_coder_7d493 : GoodIn wsJ0_length_8abf5 wsJ0_coder_7d493 := goodIn_r _ [6, 7, 8, 9, 10, 11, 12] (by decide +kernel) (by decide +kernel)
set_option maxRecDepth 20000 in
theorem gJ0_length_8abf5_J0_coder_7d493 : GoodIn wsJ0_length_8abf5 (wsV RJ0 335 RJ0 yJ0_coder_7d493 wsJ0_coder_7d493) := goodIn_app (goodIn_of _ (by decide +kernel)) ggJ0_length_8abf5_J0_coder_7d493
set_option maxRecDepth 20000 in
theorem ggJ0_getBytes_840e7_J0_coder_7d493 : GoodIn wsJ0_getBytes_840e7 wsJ0_coder_7d493 := goodIn_r _ [10, 11, 12, 41, 42, 43, 44] (by decide +kernel) (by decide +kernel)
set_option maxRecDepth 20000 in
theorem gJ0_getBytes_840e7_J0_coder_7d493 : GoodIn wsJ0_getBytes_840e7 (wsV RJ0 335 RJ0 yJ0_coder_7d493 wsJ0_coder_7d493) := goodIn_app (goodIn_of _ (by decide +kernel)) ggJ0_getBytes_840e7_J0_coder_7d493
set_option maxRecDepth 20000 in
theorem ggJ0_getBytes_840e7_J1_inflate_0e8fd : GoodIn wsJ0_getBytes_840e7 wsJ1_inflate_0e8fd := goodIn_r _ [16, 17, 18, 19, 20, 21, 22, 23, 24, 25, 26, 27, 28, 9, 29, 30, 31, 32, 33, 34, 35, 36, 37, 38, 39, 40] (by decide +kernel) (by decide +kernel)
set_option maxRecDepth 20000 in
theorem gJ0_getBytes_840e7_J1_inflate_0e8fd : GoodIn wsJ0_getBytes_840e7 (va_wsS RJ0 106 yJ1_inflate_0e8fd wsJ1_inflate_0e8fd) := goodIn_app (goodIn_of _ (by decide +kernel)) ggJ0_getBytes_840e7_J1_inflate_0e8fd
set_option maxRecDepth 20000 in
theorem ggJ0_init_db425_J5_getValue_6d5f1 : GoodIn wsJ0_init_db425 wsJ5_getValue_6d5f1 := goodIn_r _ [13, 14, 101, 102, 103, 104] (by decide +kernel) (by decide +kernel)
set_option maxRecDepth 20000 in
theorem gJ0_init_db425_J5_getValue_6d5f1_u552J4 : GoodIn wsJ0_init_db425 (va_wsU RJ0 552 RJ4 "java/lang/AbstractStringBuilder" ⟨"java/lang/AbstractStringBuilder", "getValue", "()[B"⟩ yJ5_getValue_6d5f1 wsJ5_getValue_6d5f1) := goodIn_app (goodIn_of _ (by decide +kernel)) ggJ0_init_db425_J5_getValue_6d5f1
set_option maxRecDepth 20000 in
theorem ggJ0_init_db425_J4_length_8abf5 : GoodIn wsJ0_init_db425 wsJ4_length_8abf5 := goodIn_r _ [21, 22, 16, 23, 24, 12, 25, 26, 101, 102, 103, 104] (by decide +kernel) (by decide +kernel)
set_option maxRecDepth 20000 in
theorem gJ0_init_db425_J4_length_8abf5_u549J4 : GoodIn wsJ0_init_db425 (va_wsO RJ0 549 RJ4 "java/lang/AbstractStringBuilder" ⟨"java/lang/AbstractStringBuilder", "length", "()I"⟩ yJ4_length_8abf5 wsJ4_length_8abf5) := goodIn_app (goodIn_of _ (by decide +kernel)) ggJ0_init_db425_J4_length_8abf5
set_option maxRecDepth 20000 in
theorem ggJ0_init_db425_J5_isLatin1_aae02 : GoodIn wsJ0_init_db425 wsJ5_isLatin1_aae02 := goodIn_r _ [31, 32, 33, 101, 102, 103, 104] (by decide +kernel) (by decide +kernel)
set_option maxRecDepth 20000 in
theorem gJ0_init_db425_J5_isLatin1_aae02_u1047J4 : GoodIn wsJ0_init_db425 (va_wsU RJ0 1047 RJ4 "java/lang/AbstractStringBuilder" ⟨"java/lang/AbstractStringBuilder", "isLatin1", "()Z"⟩ yJ5_isLatin1_aae02 wsJ5_isLatin1_aae02) := goodIn_app (goodIn_of _ (by decide +kernel)) ggJ0_init_db425_J5_isLatin1_aae02
set_option maxRecDepth 20000 in
theorem ggJ0_init_db425_J7_copyOfRange_39247 : GoodIn wsJ0_init_db425 wsJ7_copyOfRange_39247 := goodIn_r _ [37, 38, 39, 40, 41, 42, 43, 44, 45, 36, 46, 47, 48, 49, 50, 51, 52, 53, 54, 55, 56, 57, 58, 59, 60, 20, 101, 102, 103, 104] (by decide +kernel) (by decide +kernel)
set_option maxRecDepth 20000 in
theorem gJ0_init_db425_J7_copyOfRange_39247 : GoodIn wsJ0_init_db425 (va_wsS RJ0 54 yJ7_copyOfRange_39247 wsJ7_copyOfRange_39247) := goodIn_app (goodIn_of _ (by decide +kernel)) ggJ0_init_db425_J7_copyOfRange_39247
set_option maxRecDepth 20000 in
theorem ggJ0_init_db425_J2_compress_39247 : GoodIn wsJ0_init_db425 wsJ2_compress_39247 := goodIn_r _ [64, 47, 65, 66, 63, 67, 68, 69, 70, 71, 72, 73, 74, 75, 76, 77, 78, 79, 80, 81, 82, 83, 84, 85, 86, 87, 88, 89, 90, 91, 92, 93, 35, 36, 37, 38, 39, 40, 41, 42, 43, 44, 45, 46, 48, 49, 50, 51, 52, 53, 54, 55, 56, 57, 58, 59, 60, 20, 101, 102, 103, 104] (by decide +kernel) (by decide +kernel)
set_option maxRecDepth 20000 in
theorem gJ0_init_db425_J2_compress_39247 : GoodIn wsJ0_init_db425 (va_wsS RJ0 1051 yJ2_compress_39247 wsJ2_compress_39247) := goodIn_app (goodIn_of _ (by decide +kernel)) ggJ0_init_db425_J2_compress_39247
set_option maxRecDepth 20000 in
theorem ggJ0_init_db425_J2_coderFromArrayLen_85cad : GoodIn wsJ0_init_db425 wsJ2_coderFromArrayLen_85cad := goodIn_r _ [96] (by decide +kernel) (by decide +kernel)
set_option maxRecDepth 20000 in
theorem gJ0_init_db425_J2_coderFromArrayLen_85cad : GoodIn wsJ0_init_db425 (va_wsS RJ0 47 yJ2_coderFromArrayLen_85cad wsJ2_coderFromArrayLen_85cad) := goodIn_app (goodIn_of _ (by decide +kernel)) ggJ0_init_db425_J2_coderFromArrayLen_85cad
set_option maxRecDepth 20000 in
theorem ggJ0_checkBoundsOffCount_cabcc_J3_checkFromIndexSize_8c36e : GoodIn wsJ0_checkBoundsOffCount_cabcc wsJ3_checkFromIndexSize_8c36e := goodIn_r _ [5] (by decide +kernel) (by decide +kernel)
set_option maxRecDepth 20000 in
theorem gJ0_checkBoundsOffCount_cabcc_J3_checkFromIndexSize_8c36e : GoodIn wsJ0_checkBoundsOffCount_cabcc (va_wsS RJ0 1065 yJ3_checkFromIndexSize_8c36e wsJ3_checkFromIndexSize_8c36e) := goodIn_app (goodIn_of _ (by decide +kernel)) ggJ0_checkBoundsOffCount_cabcc_J3_checkFromIndexSize_8c36e
set_option maxRecDepth 20000 in
theorem ggJ0_checkBoundsBeginEnd_23922_J3_checkFromToIndex_8c36e : GoodIn wsJ0_checkBoundsBeginEnd_23922 wsJ3_checkFromToIndex_8c36e := goodIn_r _ [5] (by decide +kernel) (by decide +kernel)
set_option maxRecDepth 20000 in
theorem gJ0_checkBoundsBeginEnd_23922_J3_checkFromToIndex_8c36e : GoodIn wsJ0_checkBoundsBeginEnd_23922 (va_wsS RJ0 1062 yJ3_checkFromToIndex_8c36e wsJ3_checkFromToIndex_8c36e) := goodIn_app (goodIn_of _ (by decide +kernel)) ggJ0_checkBoundsBeginEnd_23922_J3_checkFromToIndex_8c36e
set_option maxRecDepth 20000 in
theorem ggJ4_init_da8c8_J5_init_d00df : GoodIn wsJ4_init_da8c8 wsJ5_init_d00df := goodIn_r _ [4, 5, 6, 7, 8, 9, 10, 11, 12, 13, 14, 15, 16, 17, 18, 19, 20, 21, 22, 23] (by decide +kernel) (by decide +kernel)
set_option maxRecDepth 20000 in
theorem gJ4_init_da8c8_J5_init_d00df : GoodIn wsJ4_init_da8c8 (wsJ5_init_d00df) := ggJ4_init_da8c8_J5_init_d00df
set_option maxRecDepth 20000 in
theorem ggJ4_append_15ec4_J5_append_cf1ce : GoodIn wsJ4_append_15ec4 wsJ5_append_cf1ce := goodIn_r _ [6, 7, 8, 9, 10, 11, 5, 12, 13, 14, 15, 16, 17, 18, 19, 20, 21, 22, 23, 24, 25, 26, 27, 28, 29, 30, 31, 32, 33, 34, 35, 36, 37, 38, 39, 40, 41, 42, 43, 44, 45, 46, 47, 48, 49, 50, 51, 52, 53, 54, 55, 56, 57, 58, 59, 60, 61, 62, 63, 64, 65, 66, 67, 68, 69, 70, 71, 72, 73, 74, 75, 76, 77, 78, 79, 80, 81, 82, 83, 84, 85, 86, 87, 88, 89, 90, 91, 92, 93, 94, 95, 96, 97, 98, 99, 100, 101, 102, 103, 104, 105, 106, 107, 108, 109, 110, 111, 112, 113, 114, 115, 116, 117, 118, 119, 120, 121, 122, 123, 124, 125, 126, 127, 128, 129, 130, 131, 132, 133, 134, 135, 136, 137, 138, 139, 140, 141, 142, 143, 144, 145, 146, 147, 148, 149, 150] (by decide +kernel) (by decide +kernel)
set_option maxRecDepth 20000 in
theorem gJ4_append_15ec4_J5_append_cf1ce_s29 : GoodIn wsJ4_append_15ec4 (va_wsSU RJ4 29 yJ5_append_cf1ce wsJ5_append_cf1ce) := goodIn_app (goodIn_of _ (by decide +kernel)) ggJ4_append_15ec4_J5_append_cf1ce
set_option maxRecDepth 20000 in
theorem ggJ4_append_bf812_J5_append_c97b9 : GoodIn wsJ4_append_bf812 wsJ5_append_c97b9 := goodIn_r _ [6, 7, 8, 9, 10, 11, 12, 13, 14, 15, 16, 5, 17, 18, 19, 20, 21, 22, 23, 24, 25, 26, 27, 28, 29, 30, 31, 32, 33, 34, 35, 36, 37, 38, 39, 40, 41, 42, 43, 44, 45, 46, 47, 48, 49, 50, 51, 52, 53, 54, 55, 56, 57, 58, 59, 60, 61, 62, 63, 64, 65, 66, 67, 68, 69, 70, 71, 72, 73, 74, 75, 76, 77, 78, 79, 80, 81, 82, 83, 84, 85, 86, 87, 88, 89, 90, 91, 92, 93, 94, 95, 96, 97, 98, 99] (by decide +kernel) (by decide +kernel)
set_option maxRecDepth 20000 in
theorem gJ4_append_bf812_J5_append_c97b9_s53 : GoodIn wsJ4_append_bf812 (va_wsSU RJ4 53 yJ5_append_c97b9 wsJ5_append_c97b9) := goodIn_app (goodIn_of _ (by decide +kernel)) ggJ4_append_bf812_J5_append_c97b9
set_option maxRecDepth 20000 in
theorem ggJ4_toString_0e30d_J0_init_81219 : GoodIn wsJ4_toString_0e30d wsJ0_init_81219 := goodIn_r _ [6, 7, 8, 3, 9, 10, 11, 12, 13, 14, 15, 16, 17, 18, 19, 20, 21, 22, 23, 24, 25, 26, 27, 28, 29, 30, 31, 32, 33, 34, 35, 36, 37, 38, 39, 40, 41, 42, 43, 44, 45, 46, 47, 48, 49, 50, 51, 52, 53, 54, 55, 56, 57, 58, 59, 60, 61, 62, 63, 64, 65, 66, 67, 68, 69, 70, 71, 72, 73, 74, 75, 76, 77, 78, 79, 80, 81, 82, 83, 84, 85, 86, 87, 88, 89, 90, 91, 92, 93, 94, 95, 96, 97, 98, 99, 100, 101, 102, 103, 104, 105, 106, 107, 108, 109, 110, 111, 112] (by decide +kernel) (by decide +kernel)
set_option maxRecDepth 20000 in
theorem gJ4_toString_0e30d_J0_init_81219 : GoodIn wsJ4_toString_0e30d (wsJ0_init_81219) := ggJ4_toString_0e30d_J0_init_81219
set_option maxRecDepth 20000 in
theorem ggJ4_length_8abf5_J5_length_8abf5 : GoodIn wsJ4_length_8abf5 wsJ5_length_8abf5 := goodIn_r _ [6, 7, 8, 9, 10, 11] (by decide +kernel) (by decide +kernel)
set_option maxRecDepth 20000 in
theorem gJ4_length_8abf5_J5_length_8abf5_s343 : GoodIn wsJ4_length_8abf5 (va_wsSU RJ4 343 yJ5_length_8abf5 wsJ5_length_8abf5) := goodIn_app (goodIn_of _ (by decide +kernel)) ggJ4_length_8abf5_J5_length_8abf5
set_option maxRecDepth 20000 in
theorem ggJ1_inflate_0e8fd_J2_inflate_0e8fd : GoodIn wsJ1_inflate_0e8fd wsJ2_inflate_0e8fd := goodIn_r _ [4, 5, 6, 3, 7, 8, 9, 10, 11, 12, 13, 14, 15, 16, 17, 18, 19, 20, 21, 22, 23, 24, 25] (by decide +kernel) (by decide +kernel)
set_option maxRecDepth 20000 in
theorem gJ1_inflate_0e8fd_J2_inflate_0e8fd : GoodIn wsJ1_inflate_0e8fd (va_wsS RJ1 240 yJ2_inflate_0e8fd wsJ2_inflate_0e8fd) := goodIn_app (goodIn_of _ (by decide +kernel)) ggJ1_inflate_0e8fd_J2_inflate_0e8fd
set_option maxRecDepth 20000 in
theorem ggJ2_newBytesFor_77867_J2_newBytesLength_0f7a4 : GoodIn wsJ2_newBytesFor_77867 wsJ2_newBytesLength_0f7a4 := goodIn_r _ [5, 6] (by decide +kernel) (by decide +kernel)
set_option maxRecDepth 20000 in
theorem gJ2_newBytesFor_77867_J2_newBytesLength_0f7a4 : GoodIn wsJ2_newBytesFor_77867 (va_wsS RJ2 11 yJ2_newBytesLength_0f7a4 wsJ2_newBytesLength_0f7a4) := goodIn_app (goodIn_of _ (by decide +kernel)) ggJ2_newBytesFor_77867_J2_newBytesLength_0f7a4
set_option maxRecDepth 20000 in
theorem ggJ2_putChar_b72d1_J2_length_9d52b : GoodIn wsJ2_putChar_b72d1 wsJ2_length_9d52b := goodIn_r _ [7] (by decide +kernel) (by decide +kernel)
set_option maxRecDepth 20000 in
theorem gJ2_putChar_b72d1_J2_length_9d52b : GoodIn wsJ2_putChar_b72d1 (va_wsS RJ2 48 yJ2_length_9d52b wsJ2_length_9d52b) := goodIn_app (goodIn_of _ (by decide +kernel)) ggJ2_putChar_b72d1_J2_length_9d52b
set_option maxRecDepth 20000 in
theorem ggJ2_getChar_3b067_J2_length_9d52b : GoodIn wsJ2_getChar_3b067 wsJ2_length_9d52b := goodIn_r _ [7] (by decide +kernel) (by decide +kernel)
set_option maxRecDepth 20000 in
theorem gJ2_getChar_3b067_J2_length_9d52b : GoodIn wsJ2_getChar_3b067 (va_wsS RJ2 48 yJ2_length_9d52b wsJ2_length_9d52b) := goodIn_app (goodIn_of _ (by decide +kernel)) ggJ2_getChar_3b067_J2_length_9d52b
set_option maxRecDepth 20000 in
theorem ggJ2_compress_39247_J2_compress_5af95 : GoodIn wsJ2_compress_39247 wsJ2_compress_5af95 := goodIn_r _ [5, 6, 7, 4, 8, 9, 10, 11, 12, 13, 14, 15, 16, 17, 18, 19, 20, 21, 22, 23, 24, 25, 26] (by decide +kernel) (by decide +kernel)
set_option maxRecDepth 20000 in
theorem gJ2_compress_39247_J2_compress_5af95 : GoodIn wsJ2_compress_39247 (va_wsS RJ2 123 yJ2_compress_5af95 wsJ2_compress_5af95) := goodIn_app (goodIn_of _ (by decide +kernel)) ggJ2_compress_39247_J2_compress_5af95
set_option maxRecDepth 20000 in
theorem ggJ2_compress_39247_J2_newBytesLength_0f7a4 : GoodIn wsJ2_compress_39247 wsJ2_newBytesLength_0f7a4 := goodIn_r _ [29, 30] (by decide +kernel) (by decide +kernel)
