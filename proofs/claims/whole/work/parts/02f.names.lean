set_option maxRecDepth 20000 in
theorem gX2_isPair_X2_isIn : GoodIn wsX2_isPair (va_wsS RX2 61 yX2_isIn wsX2_isIn) := goodIn_app (goodIn_of _ (by decide +kernel)) ggX2_isPair_X2_isIn
theorem dX2_isPair_0 : decode cX2_isPair 0 = .ok (.iload_n 0, 1) := by decide +kernel
theorem dX2_isPair_1 : decode cX2_isPair 1 = .ok (.invokestatic 65, 3) := by decide +kernel
theorem dX2_isPair_4 : decode cX2_isPair 4 = .ok (.ifCond .eq 17, 3) := by decide +kernel
theorem dX2_isPair_7 : decode cX2_isPair 7 = .ok (.iload_n 1, 1) := by decide +kernel
theorem dX2_isPair_8 : decode cX2_isPair 8 = .ok (.iconst 0, 1) := by decide +kernel
theorem dX2_isPair_9 : decode cX2_isPair 9 = .ok (.bipush 7, 2) := by decide +kernel
theorem dX2_isPair_11 : decode cX2_isPair 11 = .ok (.invokestatic 61, 3) := by decide +kernel
theorem dX2_isPair_14 : decode cX2_isPair 14 = .ok (.ifCond .eq 7, 3) := by decide +kernel
theorem dX2_isPair_17 : decode cX2_isPair 17 = .ok (.iconst 1, 1) := by decide +kernel
theorem dX2_isPair_18 : decode cX2_isPair 18 = .ok (.goto 4, 3) := by decide +kernel
theorem dX2_isPair_21 : decode cX2_isPair 21 = .ok (.iconst 0, 1) := by decide +kernel
theorem dX2_isPair_22 : decode cX2_isPair 22 = .ok (.ireturn, 1) := by decide +kernel
set_option maxRecDepth 20000 in
theorem ggX2_setBudget_X2_isBuyer : GoodIn wsX2_setBudget wsX2_isBuyer := goodIn_r _ [6, 7, 8, 5, 9] (by decide +kernel) (by decide +kernel)
set_option maxRecDepth 20000 in
theorem gX2_setBudget_X2_isBuyer : GoodIn wsX2_setBudget (va_wsS RX2 65 yX2_isBuyer wsX2_isBuyer) := goodIn_app (goodIn_of _ (by decide +kernel)) ggX2_setBudget_X2_isBuyer
set_option maxRecDepth 20000 in
theorem ggX2_setBudget_X2_isIn : GoodIn wsX2_setBudget wsX2_isIn := goodIn_r _ [9] (by decide +kernel) (by decide +kernel)
set_option maxRecDepth 20000 in
theorem gX2_setBudget_X2_isIn : GoodIn wsX2_setBudget (va_wsS RX2 61 yX2_isIn wsX2_isIn) := goodIn_app (goodIn_of _ (by decide +kernel)) ggX2_setBudget_X2_isIn
set_option maxRecDepth 20000 in
theorem ggX2_setBudget_X2_fails : GoodIn wsX2_setBudget wsX2_fails := goodIn_r _ [13, 14, 15, 16, 17, 18, 19, 20, 21, 22, 23, 24, 25, 26, 27, 28, 29, 30, 31, 32] (by decide +kernel) (by decide +kernel)
set_option maxRecDepth 20000 in
theorem gX2_setBudget_X2_fails : GoodIn wsX2_setBudget (wsV RX2 70 RX2 yX2_fails wsX2_fails) := goodIn_app (goodIn_of _ (by decide +kernel)) ggX2_setBudget_X2_fails
theorem dX2_setBudget_0 : decode cX2_setBudget 0 = .ok (.aload_n 0, 1) := by decide +kernel
theorem dX2_setBudget_1 : decode cX2_setBudget 1 = .ok (.iload_n 1, 1) := by decide +kernel
theorem dX2_setBudget_2 : decode cX2_setBudget 2 = .ok (.invokestatic 65, 3) := by decide +kernel
theorem dX2_setBudget_5 : decode cX2_setBudget 5 = .ok (.ifCond .ne 7, 3) := by decide +kernel
theorem dX2_setBudget_8 : decode cX2_setBudget 8 = .ok (.iconst 1, 1) := by decide +kernel
theorem dX2_setBudget_9 : decode cX2_setBudget 9 = .ok (.goto 18, 3) := by decide +kernel
theorem dX2_setBudget_12 : decode cX2_setBudget 12 = .ok (.iload_n 2, 1) := by decide +kernel
theorem dX2_setBudget_13 : decode cX2_setBudget 13 = .ok (.iconst 0, 1) := by decide +kernel
theorem dX2_setBudget_14 : decode cX2_setBudget 14 = .ok (.ldc 69, 2) := by decide +kernel
theorem dX2_setBudget_16 : decode cX2_setBudget 16 = .ok (.invokestatic 61, 3) := by decide +kernel
theorem dX2_setBudget_19 : decode cX2_setBudget 19 = .ok (.ifCond .eq 7, 3) := by decide +kernel
theorem dX2_setBudget_22 : decode cX2_setBudget 22 = .ok (.iconst 0, 1) := by decide +kernel
theorem dX2_setBudget_23 : decode cX2_setBudget 23 = .ok (.goto 4, 3) := by decide +kernel
theorem dX2_setBudget_26 : decode cX2_setBudget 26 = .ok (.iconst 2, 1) := by decide +kernel
theorem dX2_setBudget_27 : decode cX2_setBudget 27 = .ok (.invokevirtual 70, 3) := by decide +kernel
theorem dX2_setBudget_30 : decode cX2_setBudget 30 = .ok (.ifCond .eq 5, 3) := by decide +kernel
theorem dX2_setBudget_33 : decode cX2_setBudget 33 = .ok (.iconst 0, 1) := by decide +kernel
theorem dX2_setBudget_34 : decode cX2_setBudget 34 = .ok (.ireturn, 1) := by decide +kernel
theorem dX2_setBudget_35 : decode cX2_setBudget 35 = .ok (.aload_n 0, 1) := by decide +kernel
theorem dX2_setBudget_36 : decode cX2_setBudget 36 = .ok (.getfield 37, 3) := by decide +kernel
theorem dX2_setBudget_39 : decode cX2_setBudget 39 = .ok (.iload_n 1, 1) := by decide +kernel
theorem dX2_setBudget_40 : decode cX2_setBudget 40 = .ok (.iaload, 1) := by decide +kernel
theorem dX2_setBudget_41 : decode cX2_setBudget 41 = .ok (.istore_n 3, 1) := by decide +kernel
theorem dX2_setBudget_42 : decode cX2_setBudget 42 = .ok (.aload_n 0, 1) := by decide +kernel
theorem dX2_setBudget_43 : decode cX2_setBudget 43 = .ok (.getfield 37, 3) := by decide +kernel
theorem dX2_setBudget_46 : decode cX2_setBudget 46 = .ok (.iload_n 1, 1) := by decide +kernel
theorem dX2_setBudget_47 : decode cX2_setBudget 47 = .ok (.iload_n 2, 1) := by decide +kernel
theorem dX2_setBudget_48 : decode cX2_setBudget 48 = .ok (.iastore, 1) := by decide +kernel
theorem dX2_setBudget_49 : decode cX2_setBudget 49 = .ok (.iload_n 3, 1) := by decide +kernel
theorem dX2_setBudget_50 : decode cX2_setBudget 50 = .ok (.ireturn, 1) := by decide +kernel
set_option maxRecDepth 20000 in
theorem ggX2_setLimit_X2_isPair : GoodIn wsX2_setLimit wsX2_isPair := goodIn_r _ [6, 7, 8, 5, 9, 10, 11, 12] (by decide +kernel) (by decide +kernel)
set_option maxRecDepth 20000 in
theorem gX2_setLimit_X2_isPair : GoodIn wsX2_setLimit (va_wsS RX2 73 yX2_isPair wsX2_isPair) := goodIn_app (goodIn_of _ (by decide +kernel)) ggX2_setLimit_X2_isPair
set_option maxRecDepth 20000 in
theorem ggX2_setLimit_X2_isIn : GoodIn wsX2_setLimit wsX2_isIn := goodIn_r _ [12] (by decide +kernel) (by decide +kernel)
set_option maxRecDepth 20000 in
theorem gX2_setLimit_X2_isIn : GoodIn wsX2_setLimit (va_wsS RX2 61 yX2_isIn wsX2_isIn) := goodIn_app (goodIn_of _ (by decide +kernel)) ggX2_setLimit_X2_isIn
set_option maxRecDepth 20000 in
theorem ggX2_setLimit_X2_fails : GoodIn wsX2_setLimit wsX2_fails := goodIn_r _ [16, 17, 18, 19, 20, 21, 22, 23, 24, 25, 26, 27, 28, 29, 30, 31, 32, 33, 34, 35] (by decide +kernel) (by decide +kernel)
set_option maxRecDepth 20000 in
theorem gX2_setLimit_X2_fails : GoodIn wsX2_setLimit (wsV RX2 70 RX2 yX2_fails wsX2_fails) := goodIn_app (goodIn_of _ (by decide +kernel)) ggX2_setLimit_X2_fails
theorem dX2_setLimit_0 : decode cX2_setLimit 0 = .ok (.aload_n 0, 1) := by decide +kernel
theorem dX2_setLimit_1 : decode cX2_setLimit 1 = .ok (.iload_n 1, 1) := by decide +kernel
theorem dX2_setLimit_2 : decode cX2_setLimit 2 = .ok (.iload_n 2, 1) := by decide +kernel
theorem dX2_setLimit_3 : decode cX2_setLimit 3 = .ok (.invokestatic 73, 3) := by decide +kernel
theorem dX2_setLimit_6 : decode cX2_setLimit 6 = .ok (.ifCond .ne 7, 3) := by decide +kernel
theorem dX2_setLimit_9 : decode cX2_setLimit 9 = .ok (.iconst 1, 1) := by decide +kernel
theorem dX2_setLimit_10 : decode cX2_setLimit 10 = .ok (.goto 18, 3) := by decide +kernel
theorem dX2_setLimit_13 : decode cX2_setLimit 13 = .ok (.iload_n 3, 1) := by decide +kernel
theorem dX2_setLimit_14 : decode cX2_setLimit 14 = .ok (.iconst 0, 1) := by decide +kernel
theorem dX2_setLimit_15 : decode cX2_setLimit 15 = .ok (.ldc 69, 2) := by decide +kernel
theorem dX2_setLimit_17 : decode cX2_setLimit 17 = .ok (.invokestatic 61, 3) := by decide +kernel
theorem dX2_setLimit_20 : decode cX2_setLimit 20 = .ok (.ifCond .eq 7, 3) := by decide +kernel
theorem dX2_setLimit_23 : decode cX2_setLimit 23 = .ok (.iconst 0, 1) := by decide +kernel
theorem dX2_setLimit_24 : decode cX2_setLimit 24 = .ok (.goto 4, 3) := by decide +kernel
theorem dX2_setLimit_27 : decode cX2_setLimit 27 = .ok (.iconst 2, 1) := by decide +kernel
theorem dX2_setLimit_28 : decode cX2_setLimit 28 = .ok (.invokevirtual 70, 3) := by decide +kernel
theorem dX2_setLimit_31 : decode cX2_setLimit 31 = .ok (.ifCond .eq 5, 3) := by decide +kernel
theorem dX2_setLimit_34 : decode cX2_setLimit 34 = .ok (.iconst 0, 1) := by decide +kernel
theorem dX2_setLimit_35 : decode cX2_setLimit 35 = .ok (.ireturn, 1) := by decide +kernel
theorem dX2_setLimit_36 : decode cX2_setLimit 36 = .ok (.aload_n 0, 1) := by decide +kernel
theorem dX2_setLimit_37 : decode cX2_setLimit 37 = .ok (.getfield 40, 3) := by decide +kernel
theorem dX2_setLimit_40 : decode cX2_setLimit 40 = .ok (.bipush 8, 2) := by decide +kernel
theorem dX2_setLimit_42 : decode cX2_setLimit 42 = .ok (.iload_n 1, 1) := by decide +kernel
theorem dX2_setLimit_43 : decode cX2_setLimit 43 = .ok (.imul, 1) := by decide +kernel
theorem dX2_setLimit_44 : decode cX2_setLimit 44 = .ok (.iload_n 2, 1) := by decide +kernel
theorem dX2_setLimit_45 : decode cX2_setLimit 45 = .ok (.iadd, 1) := by decide +kernel
theorem dX2_setLimit_46 : decode cX2_setLimit 46 = .ok (.iaload, 1) := by decide +kernel
theorem dX2_setLimit_47 : decode cX2_setLimit 47 = .ok (.istore 4, 2) := by decide +kernel
theorem dX2_setLimit_49 : decode cX2_setLimit 49 = .ok (.aload_n 0, 1) := by decide +kernel
theorem dX2_setLimit_50 : decode cX2_setLimit 50 = .ok (.getfield 40, 3) := by decide +kernel
theorem dX2_setLimit_53 : decode cX2_setLimit 53 = .ok (.bipush 8, 2) := by decide +kernel
theorem dX2_setLimit_55 : decode cX2_setLimit 55 = .ok (.iload_n 1, 1) := by decide +kernel
theorem dX2_setLimit_56 : decode cX2_setLimit 56 = .ok (.imul, 1) := by decide +kernel
theorem dX2_setLimit_57 : decode cX2_setLimit 57 = .ok (.iload_n 2, 1) := by decide +kernel
theorem dX2_setLimit_58 : decode cX2_setLimit 58 = .ok (.iadd, 1) := by decide +kernel
theorem dX2_setLimit_59 : decode cX2_setLimit 59 = .ok (.iload_n 3, 1) := by decide +kernel
theorem dX2_setLimit_60 : decode cX2_setLimit 60 = .ok (.iastore, 1) := by decide +kernel
theorem dX2_setLimit_61 : decode cX2_setLimit 61 = .ok (.iload 4, 2) := by decide +kernel
theorem dX2_setLimit_63 : decode cX2_setLimit 63 = .ok (.ireturn, 1) := by decide +kernel
set_option maxRecDepth 20000 in
theorem ggX2_is_X2_isIn : GoodIn wsX2_is wsX2_isIn := goodIn_r _ [5] (by decide +kernel) (by decide +kernel)
set_option maxRecDepth 20000 in
theorem gX2_is_X2_isIn : GoodIn wsX2_is (va_wsS RX2 61 yX2_isIn wsX2_isIn) := goodIn_app (goodIn_of _ (by decide +kernel)) ggX2_is_X2_isIn
theorem dX2_is_0 : decode cX2_is 0 = .ok (.iload_n 1, 1) := by decide +kernel
theorem dX2_is_1 : decode cX2_is 1 = .ok (.iconst 0, 1) := by decide +kernel
theorem dX2_is_2 : decode cX2_is 2 = .ok (.aload_n 0, 1) := by decide +kernel
theorem dX2_is_3 : decode cX2_is 3 = .ok (.getfield 77, 3) := by decide +kernel
theorem dX2_is_6 : decode cX2_is 6 = .ok (.iconst 1, 1) := by decide +kernel
theorem dX2_is_7 : decode cX2_is 7 = .ok (.isub, 1) := by decide +kernel
theorem dX2_is_8 : decode cX2_is 8 = .ok (.invokestatic 61, 3) := by decide +kernel
theorem dX2_is_11 : decode cX2_is 11 = .ok (.ireturn, 1) := by decide +kernel
set_option maxRecDepth 20000 in
theorem ggX2_bill_X2_isIn : GoodIn wsX2_bill wsX2_isIn := goodIn_r _ [12] (by decide +kernel) (by decide +kernel)
set_option maxRecDepth 20000 in
theorem gX2_bill_X2_isIn : GoodIn wsX2_bill (va_wsS RX2 61 yX2_isIn wsX2_isIn) := goodIn_app (goodIn_of _ (by decide +kernel)) ggX2_bill_X2_isIn
set_option maxRecDepth 20000 in
theorem ggX2_bill_X2_isPair : GoodIn wsX2_bill wsX2_isPair := goodIn_r _ [15, 16, 17, 11, 18, 9, 10, 12] (by decide +kernel) (by decide +kernel)
set_option maxRecDepth 20000 in
theorem gX2_bill_X2_isPair : GoodIn wsX2_bill (va_wsS RX2 73 yX2_isPair wsX2_isPair) := goodIn_app (goodIn_of _ (by decide +kernel)) ggX2_bill_X2_isPair
set_option maxRecDepth 20000 in
theorem ggX2_bill_X2_fails : GoodIn wsX2_bill wsX2_fails := goodIn_r _ [22, 23, 24, 25, 26, 27, 28, 29, 30, 31, 32, 33, 34, 35, 36, 37, 38, 39, 40, 41] (by decide +kernel) (by decide +kernel)
set_option maxRecDepth 20000 in
theorem gX2_bill_X2_fails : GoodIn wsX2_bill (wsV RX2 70 RX2 yX2_fails wsX2_fails) := goodIn_app (goodIn_of _ (by decide +kernel)) ggX2_bill_X2_fails
theorem dX2_bill_0 : decode cX2_bill 0 = .ok (.iload_n 3, 1) := by decide +kernel
theorem dX2_bill_1 : decode cX2_bill 1 = .ok (.iconst 1, 1) := by decide +kernel
theorem dX2_bill_2 : decode cX2_bill 2 = .ok (.ldc 80, 2) := by decide +kernel
theorem dX2_bill_4 : decode cX2_bill 4 = .ok (.invokestatic 61, 3) := by decide +kernel
theorem dX2_bill_7 : decode cX2_bill 7 = .ok (.ifCond .eq 19, 3) := by decide +kernel
theorem dX2_bill_10 : decode cX2_bill 10 = .ok (.iload 4, 2) := by decide +kernel
theorem dX2_bill_12 : decode cX2_bill 12 = .ok (.iconst 1, 1) := by decide +kernel
theorem dX2_bill_13 : decode cX2_bill 13 = .ok (.sipush 360, 3) := by decide +kernel
theorem dX2_bill_16 : decode cX2_bill 16 = .ok (.invokestatic 61, 3) := by decide +kernel
theorem dX2_bill_19 : decode cX2_bill 19 = .ok (.ifCond .eq 7, 3) := by decide +kernel
theorem dX2_bill_22 : decode cX2_bill 22 = .ok (.iconst 1, 1) := by decide +kernel
theorem dX2_bill_23 : decode cX2_bill 23 = .ok (.goto 4, 3) := by decide +kernel
theorem dX2_bill_26 : decode cX2_bill 26 = .ok (.iconst 0, 1) := by decide +kernel
theorem dX2_bill_27 : decode cX2_bill 27 = .ok (.istore 5, 2) := by decide +kernel
theorem dX2_bill_29 : decode cX2_bill 29 = .ok (.aload_n 0, 1) := by decide +kernel
theorem dX2_bill_30 : decode cX2_bill 30 = .ok (.iload_n 1, 1) := by decide +kernel
theorem dX2_bill_31 : decode cX2_bill 31 = .ok (.iload_n 2, 1) := by decide +kernel
theorem dX2_bill_32 : decode cX2_bill 32 = .ok (.invokestatic 73, 3) := by decide +kernel
theorem dX2_bill_35 : decode cX2_bill 35 = .ok (.ifCond .ne 7, 3) := by decide +kernel
theorem dX2_bill_38 : decode cX2_bill 38 = .ok (.iconst 1, 1) := by decide +kernel
theorem dX2_bill_39 : decode cX2_bill 39 = .ok (.goto 26, 3) := by decide +kernel
theorem dX2_bill_42 : decode cX2_bill 42 = .ok (.iload 5, 2) := by decide +kernel
theorem dX2_bill_44 : decode cX2_bill 44 = .ok (.ifCond .ne 7, 3) := by decide +kernel
theorem dX2_bill_47 : decode cX2_bill 47 = .ok (.iconst 2, 1) := by decide +kernel
theorem dX2_bill_48 : decode cX2_bill 48 = .ok (.goto 17, 3) := by decide +kernel
theorem dX2_bill_51 : decode cX2_bill 51 = .ok (.aload_n 0, 1) := by decide +kernel
theorem dX2_bill_52 : decode cX2_bill 52 = .ok (.getfield 77, 3) := by decide +kernel
theorem dX2_bill_55 : decode cX2_bill 55 = .ok (.bipush 30, 2) := by decide +kernel
theorem dX2_bill_57 : decode cX2_bill 57 = .ok (.if_icmp .ne 7, 3) := by decide +kernel
theorem dX2_bill_60 : decode cX2_bill 60 = .ok (.iconst 3, 1) := by decide +kernel
theorem dX2_bill_61 : decode cX2_bill 61 = .ok (.goto 4, 3) := by decide +kernel
theorem dX2_bill_64 : decode cX2_bill 64 = .ok (.iconst 0, 1) := by decide +kernel
theorem dX2_bill_65 : decode cX2_bill 65 = .ok (.invokevirtual 70, 3) := by decide +kernel
theorem dX2_bill_68 : decode cX2_bill 68 = .ok (.ifCond .eq 5, 3) := by decide +kernel
theorem dX2_bill_71 : decode cX2_bill 71 = .ok (.iconst 0, 1) := by decide +kernel
theorem dX2_bill_72 : decode cX2_bill 72 = .ok (.ireturn, 1) := by decide +kernel
theorem dX2_bill_73 : decode cX2_bill 73 = .ok (.aload_n 0, 1) := by decide +kernel
theorem dX2_bill_74 : decode cX2_bill 74 = .ok (.getfield 7, 3) := by decide +kernel
theorem dX2_bill_77 : decode cX2_bill 77 = .ok (.aload_n 0, 1) := by decide +kernel
theorem dX2_bill_78 : decode cX2_bill 78 = .ok (.getfield 77, 3) := by decide +kernel
theorem dX2_bill_81 : decode cX2_bill 81 = .ok (.iload_n 1, 1) := by decide +kernel
theorem dX2_bill_82 : decode cX2_bill 82 = .ok (.iastore, 1) := by decide +kernel
theorem dX2_bill_83 : decode cX2_bill 83 = .ok (.aload_n 0, 1) := by decide +kernel
theorem dX2_bill_84 : decode cX2_bill 84 = .ok (.getfield 13, 3) := by decide +kernel
theorem dX2_bill_87 : decode cX2_bill 87 = .ok (.aload_n 0, 1) := by decide +kernel
theorem dX2_bill_88 : decode cX2_bill 88 = .ok (.getfield 77, 3) := by decide +kernel
theorem dX2_bill_91 : decode cX2_bill 91 = .ok (.iload_n 2, 1) := by decide +kernel
theorem dX2_bill_92 : decode cX2_bill 92 = .ok (.iastore, 1) := by decide +kernel
theorem dX2_bill_93 : decode cX2_bill 93 = .ok (.aload_n 0, 1) := by decide +kernel
theorem dX2_bill_94 : decode cX2_bill 94 = .ok (.getfield 16, 3) := by decide +kernel
theorem dX2_bill_97 : decode cX2_bill 97 = .ok (.aload_n 0, 1) := by decide +kernel
theorem dX2_bill_98 : decode cX2_bill 98 = .ok (.getfield 77, 3) := by decide +kernel
theorem dX2_bill_101 : decode cX2_bill 101 = .ok (.iload_n 3, 1) := by decide +kernel
theorem dX2_bill_102 : decode cX2_bill 102 = .ok (.iastore, 1) := by decide +kernel
theorem dX2_bill_103 : decode cX2_bill 103 = .ok (.aload_n 0, 1) := by decide +kernel
theorem dX2_bill_104 : decode cX2_bill 104 = .ok (.getfield 19, 3) := by decide +kernel
theorem dX2_bill_107 : decode cX2_bill 107 = .ok (.aload_n 0, 1) := by decide +kernel
theorem dX2_bill_108 : decode cX2_bill 108 = .ok (.getfield 77, 3) := by decide +kernel
theorem dX2_bill_111 : decode cX2_bill 111 = .ok (.aload_n 0, 1) := by decide +kernel
theorem dX2_bill_112 : decode cX2_bill 112 = .ok (.getfield 81, 3) := by decide +kernel
theorem dX2_bill_115 : decode cX2_bill 115 = .ok (.iload 4, 2) := by decide +kernel
theorem dX2_bill_117 : decode cX2_bill 117 = .ok (.iadd, 1) := by decide +kernel
theorem dX2_bill_118 : decode cX2_bill 118 = .ok (.iastore, 1) := by decide +kernel
theorem dX2_bill_119 : decode cX2_bill 119 = .ok (.aload_n 0, 1) := by decide +kernel
theorem dX2_bill_120 : decode cX2_bill 120 = .ok (.getfield 25, 3) := by decide +kernel
theorem dX2_bill_123 : decode cX2_bill 123 = .ok (.aload_n 0, 1) := by decide +kernel
theorem dX2_bill_124 : decode cX2_bill 124 = .ok (.getfield 77, 3) := by decide +kernel
theorem dX2_bill_127 : decode cX2_bill 127 = .ok (.iconst (-1), 1) := by decide +kernel
theorem dX2_bill_128 : decode cX2_bill 128 = .ok (.iastore, 1) := by decide +kernel
theorem dX2_bill_129 : decode cX2_bill 129 = .ok (.aload_n 0, 1) := by decide +kernel
theorem dX2_bill_130 : decode cX2_bill 130 = .ok (.dup, 1) := by decide +kernel
theorem dX2_bill_131 : decode cX2_bill 131 = .ok (.getfield 77, 3) := by decide +kernel
theorem dX2_bill_134 : decode cX2_bill 134 = .ok (.iconst 1, 1) := by decide +kernel
theorem dX2_bill_135 : decode cX2_bill 135 = .ok (.iadd, 1) := by decide +kernel
theorem dX2_bill_136 : decode cX2_bill 136 = .ok (.putfield 77, 3) := by decide +kernel
theorem dX2_bill_139 : decode cX2_bill 139 = .ok (.aload_n 0, 1) := by decide +kernel
theorem dX2_bill_140 : decode cX2_bill 140 = .ok (.getfield 77, 3) := by decide +kernel
theorem dX2_bill_143 : decode cX2_bill 143 = .ok (.iconst 1, 1) := by decide +kernel
theorem dX2_bill_144 : decode cX2_bill 144 = .ok (.isub, 1) := by decide +kernel
theorem dX2_bill_145 : decode cX2_bill 145 = .ok (.ireturn, 1) := by decide +kernel
theorem dX2_pair_0 : decode cX2_pair 0 = .ok (.bipush 8, 2) := by decide +kernel
theorem dX2_pair_2 : decode cX2_pair 2 = .ok (.aload_n 0, 1) := by decide +kernel
theorem dX2_pair_3 : decode cX2_pair 3 = .ok (.getfield 7, 3) := by decide +kernel
theorem dX2_pair_6 : decode cX2_pair 6 = .ok (.iload_n 1, 1) := by decide +kernel
theorem dX2_pair_7 : decode cX2_pair 7 = .ok (.iaload, 1) := by decide +kernel
theorem dX2_pair_8 : decode cX2_pair 8 = .ok (.imul, 1) := by decide +kernel
theorem dX2_pair_9 : decode cX2_pair 9 = .ok (.aload_n 0, 1) := by decide +kernel
theorem dX2_pair_10 : decode cX2_pair 10 = .ok (.getfield 13, 3) := by decide +kernel
theorem dX2_pair_13 : decode cX2_pair 13 = .ok (.iload_n 1, 1) := by decide +kernel
theorem dX2_pair_14 : decode cX2_pair 14 = .ok (.iaload, 1) := by decide +kernel
theorem dX2_pair_15 : decode cX2_pair 15 = .ok (.iadd, 1) := by decide +kernel
theorem dX2_pair_16 : decode cX2_pair 16 = .ok (.ireturn, 1) := by decide +kernel
set_option maxRecDepth 20000 in
theorem ggX2_pays_X2_pair : GoodIn wsX2_pays wsX2_pair := goodIn_r _ [9, 10, 11, 12, 13, 14, 15, 16, 17, 18, 19, 20, 21, 22, 23, 24, 25, 26, 27, 28, 29] (by decide +kernel) (by decide +kernel)
set_option maxRecDepth 20000 in
theorem gX2_pays_X2_pair : GoodIn wsX2_pays (wsV RX2 84 RX2 yX2_pair wsX2_pair) := goodIn_app (goodIn_of _ (by decide +kernel)) ggX2_pays_X2_pair
theorem dX2_pays_0 : decode cX2_pays 0 = .ok (.aload_n 0, 1) := by decide +kernel
theorem dX2_pays_1 : decode cX2_pays 1 = .ok (.getfield 43, 3) := by decide +kernel
theorem dX2_pays_4 : decode cX2_pays 4 = .ok (.aload_n 0, 1) := by decide +kernel
theorem dX2_pays_5 : decode cX2_pays 5 = .ok (.iload_n 1, 1) := by decide +kernel
theorem dX2_pays_6 : decode cX2_pays 6 = .ok (.invokevirtual 84, 3) := by decide +kernel
theorem dX2_pays_9 : decode cX2_pays 9 = .ok (.iaload, 1) := by decide +kernel
theorem dX2_pays_10 : decode cX2_pays 10 = .ok (.iload_n 2, 1) := by decide +kernel
theorem dX2_pays_11 : decode cX2_pays 11 = .ok (.if_icmp .ge 16, 3) := by decide +kernel
theorem dX2_pays_14 : decode cX2_pays 14 = .ok (.aload_n 0, 1) := by decide +kernel
theorem dX2_pays_15 : decode cX2_pays 15 = .ok (.getfield 43, 3) := by decide +kernel
theorem dX2_pays_18 : decode cX2_pays 18 = .ok (.aload_n 0, 1) := by decide +kernel
theorem dX2_pays_19 : decode cX2_pays 19 = .ok (.iload_n 1, 1) := by decide +kernel
theorem dX2_pays_20 : decode cX2_pays 20 = .ok (.invokevirtual 84, 3) := by decide +kernel
theorem dX2_pays_23 : decode cX2_pays 23 = .ok (.iaload, 1) := by decide +kernel
theorem dX2_pays_24 : decode cX2_pays 24 = .ok (.goto 4, 3) := by decide +kernel
theorem dX2_pays_27 : decode cX2_pays 27 = .ok (.iload_n 2, 1) := by decide +kernel
theorem dX2_pays_28 : decode cX2_pays 28 = .ok (.istore 4, 2) := by decide +kernel
theorem dX2_pays_30 : decode cX2_pays 30 = .ok (.aload_n 0, 1) := by decide +kernel
theorem dX2_pays_31 : decode cX2_pays 31 = .ok (.getfield 43, 3) := by decide +kernel
theorem dX2_pays_34 : decode cX2_pays 34 = .ok (.aload_n 0, 1) := by decide +kernel
theorem dX2_pays_35 : decode cX2_pays 35 = .ok (.iload_n 1, 1) := by decide +kernel
theorem dX2_pays_36 : decode cX2_pays 36 = .ok (.invokevirtual 84, 3) := by decide +kernel
theorem dX2_pays_39 : decode cX2_pays 39 = .ok (.dup2, 1) := by decide +kernel
theorem dX2_pays_40 : decode cX2_pays 40 = .ok (.iaload, 1) := by decide +kernel
theorem dX2_pays_41 : decode cX2_pays 41 = .ok (.iload 4, 2) := by decide +kernel
theorem dX2_pays_43 : decode cX2_pays 43 = .ok (.isub, 1) := by decide +kernel
theorem dX2_pays_44 : decode cX2_pays 44 = .ok (.iastore, 1) := by decide +kernel
theorem dX2_pays_45 : decode cX2_pays 45 = .ok (.aload_n 0, 1) := by decide +kernel
theorem dX2_pays_46 : decode cX2_pays 46 = .ok (.getfield 28, 3) := by decide +kernel
theorem dX2_pays_49 : decode cX2_pays 49 = .ok (.iload_n 1, 1) := by decide +kernel
theorem dX2_pays_50 : decode cX2_pays 50 = .ok (.iload_n 2, 1) := by decide +kernel
theorem dX2_pays_51 : decode cX2_pays 51 = .ok (.iastore, 1) := by decide +kernel
theorem dX2_pays_52 : decode cX2_pays 52 = .ok (.aload_n 0, 1) := by decide +kernel
theorem dX2_pays_53 : decode cX2_pays 53 = .ok (.getfield 31, 3) := by decide +kernel
theorem dX2_pays_56 : decode cX2_pays 56 = .ok (.iload_n 1, 1) := by decide +kernel
theorem dX2_pays_57 : decode cX2_pays 57 = .ok (.iload 4, 2) := by decide +kernel
theorem dX2_pays_59 : decode cX2_pays 59 = .ok (.iastore, 1) := by decide +kernel
theorem dX2_pays_60 : decode cX2_pays 60 = .ok (.aload_n 0, 1) := by decide +kernel
theorem dX2_pays_61 : decode cX2_pays 61 = .ok (.getfield 22, 3) := by decide +kernel
theorem dX2_pays_64 : decode cX2_pays 64 = .ok (.iload_n 1, 1) := by decide +kernel
theorem dX2_pays_65 : decode cX2_pays 65 = .ok (.iload_n 3, 1) := by decide +kernel
theorem dX2_pays_66 : decode cX2_pays 66 = .ok (.iastore, 1) := by decide +kernel
theorem dX2_pays_67 : decode cX2_pays 67 = .ok (.return_, 1) := by decide +kernel
set_option maxRecDepth 20000 in
theorem ggX2_approve_X2_is : GoodIn wsX2_approve wsX2_is := goodIn_r _ [9, 10, 11, 12, 8, 13, 32, 33, 34, 35, 36, 37, 38, 39, 40, 41, 42, 43, 44, 45, 46, 47, 48, 49] (by decide +kernel) (by decide +kernel)
set_option maxRecDepth 20000 in
theorem gX2_approve_X2_is : GoodIn wsX2_approve (wsV RX2 88 RX2 yX2_is wsX2_is) := goodIn_app (goodIn_of _ (by decide +kernel)) ggX2_approve_X2_is
set_option maxRecDepth 20000 in
theorem ggX2_approve_X2_fails : GoodIn wsX2_approve wsX2_fails := goodIn_r _ [17, 18, 32, 33, 34, 35, 36, 37, 38, 39, 40, 41, 42, 43, 44, 45, 46, 47, 48, 49] (by decide +kernel) (by decide +kernel)
set_option maxRecDepth 20000 in
theorem gX2_approve_X2_fails : GoodIn wsX2_approve (wsV RX2 70 RX2 yX2_fails wsX2_fails) := goodIn_app (goodIn_of _ (by decide +kernel)) ggX2_approve_X2_fails
set_option maxRecDepth 20000 in
theorem ggX2_approve_X2_pays : GoodIn wsX2_approve wsX2_pays := goodIn_r _ [22, 23, 24, 25, 1, 26, 27, 28, 8, 29, 30, 31, 32, 33, 34, 35, 36, 37, 38, 39, 40, 41, 42, 43, 44, 45, 46, 47, 48, 49] (by decide +kernel) (by decide +kernel)
set_option maxRecDepth 20000 in
theorem gX2_approve_X2_pays : GoodIn wsX2_approve (wsV RX2 91 RX2 yX2_pays wsX2_pays) := goodIn_app (goodIn_of _ (by decide +kernel)) ggX2_approve_X2_pays
theorem dX2_approve_0 : decode cX2_approve 0 = .ok (.aload_n 0, 1) := by decide +kernel
theorem dX2_approve_1 : decode cX2_approve 1 = .ok (.iload_n 1, 1) := by decide +kernel
theorem dX2_approve_2 : decode cX2_approve 2 = .ok (.invokevirtual 88, 3) := by decide +kernel
theorem dX2_approve_5 : decode cX2_approve 5 = .ok (.istore_n 2, 1) := by decide +kernel
theorem dX2_approve_6 : decode cX2_approve 6 = .ok (.aload_n 0, 1) := by decide +kernel
theorem dX2_approve_7 : decode cX2_approve 7 = .ok (.iload_n 2, 1) := by decide +kernel
theorem dX2_approve_8 : decode cX2_approve 8 = .ok (.ifCond .ne 7, 3) := by decide +kernel
theorem dX2_approve_11 : decode cX2_approve 11 = .ok (.iconst 1, 1) := by decide +kernel
theorem dX2_approve_12 : decode cX2_approve 12 = .ok (.goto 27, 3) := by decide +kernel
theorem dX2_approve_15 : decode cX2_approve 15 = .ok (.aload_n 0, 1) := by decide +kernel
theorem dX2_approve_16 : decode cX2_approve 16 = .ok (.getfield 22, 3) := by decide +kernel
theorem dX2_approve_19 : decode cX2_approve 19 = .ok (.iload_n 1, 1) := by decide +kernel
theorem dX2_approve_20 : decode cX2_approve 20 = .ok (.iaload, 1) := by decide +kernel
theorem dX2_approve_21 : decode cX2_approve 21 = .ok (.ifCond .eq 13, 3) := by decide +kernel
theorem dX2_approve_24 : decode cX2_approve 24 = .ok (.aload_n 0, 1) := by decide +kernel
theorem dX2_approve_25 : decode cX2_approve 25 = .ok (.getfield 22, 3) := by decide +kernel
theorem dX2_approve_28 : decode cX2_approve 28 = .ok (.iload_n 1, 1) := by decide +kernel
theorem dX2_approve_29 : decode cX2_approve 29 = .ok (.iaload, 1) := by decide +kernel
theorem dX2_approve_30 : decode cX2_approve 30 = .ok (.iconst 2, 1) := by decide +kernel
theorem dX2_approve_31 : decode cX2_approve 31 = .ok (.if_icmp .ne 7, 3) := by decide +kernel
theorem dX2_approve_34 : decode cX2_approve 34 = .ok (.iconst 0, 1) := by decide +kernel
theorem dX2_approve_35 : decode cX2_approve 35 = .ok (.goto 4, 3) := by decide +kernel
theorem dX2_approve_38 : decode cX2_approve 38 = .ok (.iconst 2, 1) := by decide +kernel
theorem dX2_approve_39 : decode cX2_approve 39 = .ok (.invokevirtual 70, 3) := by decide +kernel
theorem dX2_approve_42 : decode cX2_approve 42 = .ok (.ifCond .eq 5, 3) := by decide +kernel
theorem dX2_approve_45 : decode cX2_approve 45 = .ok (.iconst 0, 1) := by decide +kernel
theorem dX2_approve_46 : decode cX2_approve 46 = .ok (.ireturn, 1) := by decide +kernel
theorem dX2_approve_47 : decode cX2_approve 47 = .ok (.aload_n 0, 1) := by decide +kernel
theorem dX2_approve_48 : decode cX2_approve 48 = .ok (.getfield 22, 3) := by decide +kernel
theorem dX2_approve_51 : decode cX2_approve 51 = .ok (.iload_n 1, 1) := by decide +kernel
theorem dX2_approve_52 : decode cX2_approve 52 = .ok (.iconst 1, 1) := by decide +kernel
theorem dX2_approve_53 : decode cX2_approve 53 = .ok (.iastore, 1) := by decide +kernel
theorem dX2_approve_54 : decode cX2_approve 54 = .ok (.aload_n 0, 1) := by decide +kernel
theorem dX2_approve_55 : decode cX2_approve 55 = .ok (.getfield 19, 3) := by decide +kernel
theorem dX2_approve_58 : decode cX2_approve 58 = .ok (.iload_n 1, 1) := by decide +kernel
theorem dX2_approve_59 : decode cX2_approve 59 = .ok (.iaload, 1) := by decide +kernel
theorem dX2_approve_60 : decode cX2_approve 60 = .ok (.aload_n 0, 1) := by decide +kernel
theorem dX2_approve_61 : decode cX2_approve 61 = .ok (.getfield 81, 3) := by decide +kernel
theorem dX2_approve_64 : decode cX2_approve 64 = .ok (.if_icmp .gt 15, 3) := by decide +kernel
theorem dX2_approve_67 : decode cX2_approve 67 = .ok (.aload_n 0, 1) := by decide +kernel
theorem dX2_approve_68 : decode cX2_approve 68 = .ok (.iload_n 1, 1) := by decide +kernel
theorem dX2_approve_69 : decode cX2_approve 69 = .ok (.aload_n 0, 1) := by decide +kernel
theorem dX2_approve_70 : decode cX2_approve 70 = .ok (.getfield 16, 3) := by decide +kernel
theorem dX2_approve_73 : decode cX2_approve 73 = .ok (.iload_n 1, 1) := by decide +kernel
theorem dX2_approve_74 : decode cX2_approve 74 = .ok (.iaload, 1) := by decide +kernel
theorem dX2_approve_75 : decode cX2_approve 75 = .ok (.iconst 4, 1) := by decide +kernel
theorem dX2_approve_76 : decode cX2_approve 76 = .ok (.invokevirtual 91, 3) := by decide +kernel
theorem dX2_approve_79 : decode cX2_approve 79 = .ok (.aload_n 0, 1) := by decide +kernel
theorem dX2_approve_80 : decode cX2_approve 80 = .ok (.getfield 22, 3) := by decide +kernel
theorem dX2_approve_83 : decode cX2_approve 83 = .ok (.iload_n 1, 1) := by decide +kernel
theorem dX2_approve_84 : decode cX2_approve 84 = .ok (.iaload, 1) := by decide +kernel
theorem dX2_approve_85 : decode cX2_approve 85 = .ok (.iconst 4, 1) := by decide +kernel
theorem dX2_approve_86 : decode cX2_approve 86 = .ok (.if_icmp .ne 7, 3) := by decide +kernel
theorem dX2_approve_89 : decode cX2_approve 89 = .ok (.iconst 1, 1) := by decide +kernel
theorem dX2_approve_90 : decode cX2_approve 90 = .ok (.goto 4, 3) := by decide +kernel
theorem dX2_approve_93 : decode cX2_approve 93 = .ok (.iconst 0, 1) := by decide +kernel
theorem dX2_approve_94 : decode cX2_approve 94 = .ok (.ireturn, 1) := by decide +kernel
set_option maxRecDepth 20000 in
theorem ggX2_dispute_X2_is : GoodIn wsX2_dispute wsX2_is := goodIn_r _ [7, 8, 9, 10, 6, 11, 17, 18, 19, 20, 21, 22, 23, 24, 25, 26, 27, 28, 29, 30, 31, 32, 33, 34] (by decide +kernel) (by decide +kernel)
set_option maxRecDepth 20000 in
theorem gX2_dispute_X2_is : GoodIn wsX2_dispute (wsV RX2 88 RX2 yX2_is wsX2_is) := goodIn_app (goodIn_of _ (by decide +kernel)) ggX2_dispute_X2_is
set_option maxRecDepth 20000 in
theorem ggX2_dispute_X2_fails : GoodIn wsX2_dispute wsX2_fails := goodIn_r _ [15, 16, 17, 18, 19, 20, 21, 22, 23, 24, 25, 26, 27, 28, 29, 30, 31, 32, 33, 34] (by decide +kernel) (by decide +kernel)
set_option maxRecDepth 20000 in
theorem gX2_dispute_X2_fails : GoodIn wsX2_dispute (wsV RX2 70 RX2 yX2_fails wsX2_fails) := goodIn_app (goodIn_of _ (by decide +kernel)) ggX2_dispute_X2_fails
theorem dX2_dispute_0 : decode cX2_dispute 0 = .ok (.aload_n 0, 1) := by decide +kernel
theorem dX2_dispute_1 : decode cX2_dispute 1 = .ok (.iload_n 1, 1) := by decide +kernel
theorem dX2_dispute_2 : decode cX2_dispute 2 = .ok (.invokevirtual 88, 3) := by decide +kernel
theorem dX2_dispute_5 : decode cX2_dispute 5 = .ok (.istore_n 2, 1) := by decide +kernel
theorem dX2_dispute_6 : decode cX2_dispute 6 = .ok (.aload_n 0, 1) := by decide +kernel
theorem dX2_dispute_7 : decode cX2_dispute 7 = .ok (.iload_n 2, 1) := by decide +kernel
theorem dX2_dispute_8 : decode cX2_dispute 8 = .ok (.ifCond .ne 7, 3) := by decide +kernel
theorem dX2_dispute_11 : decode cX2_dispute 11 = .ok (.iconst 1, 1) := by decide +kernel
theorem dX2_dispute_12 : decode cX2_dispute 12 = .ok (.goto 27, 3) := by decide +kernel
theorem dX2_dispute_15 : decode cX2_dispute 15 = .ok (.aload_n 0, 1) := by decide +kernel
theorem dX2_dispute_16 : decode cX2_dispute 16 = .ok (.getfield 22, 3) := by decide +kernel
theorem dX2_dispute_19 : decode cX2_dispute 19 = .ok (.iload_n 1, 1) := by decide +kernel
theorem dX2_dispute_20 : decode cX2_dispute 20 = .ok (.iaload, 1) := by decide +kernel
theorem dX2_dispute_21 : decode cX2_dispute 21 = .ok (.ifCond .eq 13, 3) := by decide +kernel
theorem dX2_dispute_24 : decode cX2_dispute 24 = .ok (.aload_n 0, 1) := by decide +kernel
theorem dX2_dispute_25 : decode cX2_dispute 25 = .ok (.getfield 22, 3) := by decide +kernel
theorem dX2_dispute_28 : decode cX2_dispute 28 = .ok (.iload_n 1, 1) := by decide +kernel
theorem dX2_dispute_29 : decode cX2_dispute 29 = .ok (.iaload, 1) := by decide +kernel
theorem dX2_dispute_30 : decode cX2_dispute 30 = .ok (.iconst 1, 1) := by decide +kernel
theorem dX2_dispute_31 : decode cX2_dispute 31 = .ok (.if_icmp .ne 7, 3) := by decide +kernel
theorem dX2_dispute_34 : decode cX2_dispute 34 = .ok (.iconst 0, 1) := by decide +kernel
theorem dX2_dispute_35 : decode cX2_dispute 35 = .ok (.goto 4, 3) := by decide +kernel
theorem dX2_dispute_38 : decode cX2_dispute 38 = .ok (.iconst 2, 1) := by decide +kernel
theorem dX2_dispute_39 : decode cX2_dispute 39 = .ok (.invokevirtual 70, 3) := by decide +kernel
theorem dX2_dispute_42 : decode cX2_dispute 42 = .ok (.ifCond .ne 17, 3) := by decide +kernel
theorem dX2_dispute_45 : decode cX2_dispute 45 = .ok (.aload_n 0, 1) := by decide +kernel
theorem dX2_dispute_46 : decode cX2_dispute 46 = .ok (.getfield 22, 3) := by decide +kernel
theorem dX2_dispute_49 : decode cX2_dispute 49 = .ok (.iload_n 1, 1) := by decide +kernel
theorem dX2_dispute_50 : decode cX2_dispute 50 = .ok (.iconst 2, 1) := by decide +kernel
theorem dX2_dispute_51 : decode cX2_dispute 51 = .ok (.iastore, 1) := by decide +kernel
theorem dX2_dispute_52 : decode cX2_dispute 52 = .ok (.aload_n 0, 1) := by decide +kernel
theorem dX2_dispute_53 : decode cX2_dispute 53 = .ok (.getfield 25, 3) := by decide +kernel
theorem dX2_dispute_56 : decode cX2_dispute 56 = .ok (.iload_n 1, 1) := by decide +kernel
theorem dX2_dispute_57 : decode cX2_dispute 57 = .ok (.iconst (-1), 1) := by decide +kernel
theorem dX2_dispute_58 : decode cX2_dispute 58 = .ok (.iastore, 1) := by decide +kernel
theorem dX2_dispute_59 : decode cX2_dispute 59 = .ok (.return_, 1) := by decide +kernel
set_option maxRecDepth 20000 in
theorem ggX2_note_X2_is : GoodIn wsX2_note wsX2_is := goodIn_r _ [10, 11, 12, 13, 9, 14, 26, 27, 28, 29, 30, 31, 32, 33, 34, 35, 36, 37, 38, 39, 40, 41, 42, 43] (by decide +kernel) (by decide +kernel)
set_option maxRecDepth 20000 in
theorem gX2_note_X2_is : GoodIn wsX2_note (wsV RX2 88 RX2 yX2_is wsX2_is) := goodIn_app (goodIn_of _ (by decide +kernel)) ggX2_note_X2_is
set_option maxRecDepth 20000 in
theorem ggX2_note_X2_isIn : GoodIn wsX2_note wsX2_isIn := goodIn_r _ [14] (by decide +kernel) (by decide +kernel)
set_option maxRecDepth 20000 in
theorem gX2_note_X2_isIn : GoodIn wsX2_note (va_wsS RX2 61 yX2_isIn wsX2_isIn) := goodIn_app (goodIn_of _ (by decide +kernel)) ggX2_note_X2_isIn
set_option maxRecDepth 20000 in
theorem ggX2_note_X2_fails : GoodIn wsX2_note wsX2_fails := goodIn_r _ [18, 19, 26, 27, 28, 29, 30, 31, 32, 33, 34, 35, 36, 37, 38, 39, 40, 41, 42, 43] (by decide +kernel) (by decide +kernel)
set_option maxRecDepth 20000 in
theorem gX2_note_X2_fails : GoodIn wsX2_note (wsV RX2 70 RX2 yX2_fails wsX2_fails) := goodIn_app (goodIn_of _ (by decide +kernel)) ggX2_note_X2_fails
set_option maxRecDepth 20000 in
theorem ggX2_note_X2_pair : GoodIn wsX2_note wsX2_pair := goodIn_r _ [23, 24, 25, 26, 27, 28, 29, 30, 31, 32, 33, 34, 35, 36, 37, 38, 39, 40, 41, 42, 43] (by decide +kernel) (by decide +kernel)
set_option maxRecDepth 20000 in
theorem gX2_note_X2_pair : GoodIn wsX2_note (wsV RX2 84 RX2 yX2_pair wsX2_pair) := goodIn_app (goodIn_of _ (by decide +kernel)) ggX2_note_X2_pair
theorem dX2_note_0 : decode cX2_note 0 = .ok (.aload_n 0, 1) := by decide +kernel
theorem dX2_note_1 : decode cX2_note 1 = .ok (.iload_n 1, 1) := by decide +kernel
theorem dX2_note_2 : decode cX2_note 2 = .ok (.invokevirtual 88, 3) := by decide +kernel
theorem dX2_note_5 : decode cX2_note 5 = .ok (.istore_n 3, 1) := by decide +kernel
theorem dX2_note_6 : decode cX2_note 6 = .ok (.aload_n 0, 1) := by decide +kernel
theorem dX2_note_7 : decode cX2_note 7 = .ok (.iload_n 3, 1) := by decide +kernel
theorem dX2_note_8 : decode cX2_note 8 = .ok (.ifCond .ne 7, 3) := by decide +kernel
theorem dX2_note_11 : decode cX2_note 11 = .ok (.iconst 1, 1) := by decide +kernel
theorem dX2_note_12 : decode cX2_note 12 = .ok (.goto 29, 3) := by decide +kernel
theorem dX2_note_15 : decode cX2_note 15 = .ok (.iload_n 2, 1) := by decide +kernel
theorem dX2_note_16 : decode cX2_note 16 = .ok (.iconst 1, 1) := by decide +kernel
theorem dX2_note_17 : decode cX2_note 17 = .ok (.aload_n 0, 1) := by decide +kernel
theorem dX2_note_18 : decode cX2_note 18 = .ok (.getfield 16, 3) := by decide +kernel
theorem dX2_note_21 : decode cX2_note 21 = .ok (.iload_n 1, 1) := by decide +kernel
theorem dX2_note_22 : decode cX2_note 22 = .ok (.iaload, 1) := by decide +kernel
theorem dX2_note_23 : decode cX2_note 23 = .ok (.aload_n 0, 1) := by decide +kernel
theorem dX2_note_24 : decode cX2_note 24 = .ok (.getfield 34, 3) := by decide +kernel
theorem dX2_note_27 : decode cX2_note 27 = .ok (.iload_n 1, 1) := by decide +kernel
theorem dX2_note_28 : decode cX2_note 28 = .ok (.iaload, 1) := by decide +kernel
theorem dX2_note_29 : decode cX2_note 29 = .ok (.isub, 1) := by decide +kernel
theorem dX2_note_30 : decode cX2_note 30 = .ok (.invokestatic 61, 3) := by decide +kernel
theorem dX2_note_33 : decode cX2_note 33 = .ok (.ifCond .eq 7, 3) := by decide +kernel
theorem dX2_note_36 : decode cX2_note 36 = .ok (.iconst 0, 1) := by decide +kernel
theorem dX2_note_37 : decode cX2_note 37 = .ok (.goto 4, 3) := by decide +kernel
theorem dX2_note_40 : decode cX2_note 40 = .ok (.iconst 2, 1) := by decide +kernel
theorem dX2_note_41 : decode cX2_note 41 = .ok (.invokevirtual 70, 3) := by decide +kernel
theorem dX2_note_44 : decode cX2_note 44 = .ok (.ifCond .eq 5, 3) := by decide +kernel
theorem dX2_note_47 : decode cX2_note 47 = .ok (.iconst 0, 1) := by decide +kernel
theorem dX2_note_48 : decode cX2_note 48 = .ok (.ireturn, 1) := by decide +kernel
theorem dX2_note_49 : decode cX2_note 49 = .ok (.aload_n 0, 1) := by decide +kernel
theorem dX2_note_50 : decode cX2_note 50 = .ok (.getfield 22, 3) := by decide +kernel
theorem dX2_note_53 : decode cX2_note 53 = .ok (.iload_n 1, 1) := by decide +kernel
theorem dX2_note_54 : decode cX2_note 54 = .ok (.iaload, 1) := by decide +kernel
theorem dX2_note_55 : decode cX2_note 55 = .ok (.iconst 3, 1) := by decide +kernel
theorem dX2_note_56 : decode cX2_note 56 = .ok (.if_icmp .ge 20, 3) := by decide +kernel
theorem dX2_note_59 : decode cX2_note 59 = .ok (.aload_n 0, 1) := by decide +kernel
theorem dX2_note_60 : decode cX2_note 60 = .ok (.getfield 16, 3) := by decide +kernel
theorem dX2_note_63 : decode cX2_note 63 = .ok (.iload_n 1, 1) := by decide +kernel
theorem dX2_note_64 : decode cX2_note 64 = .ok (.dup2, 1) := by decide +kernel
theorem dX2_note_65 : decode cX2_note 65 = .ok (.iaload, 1) := by decide +kernel
theorem dX2_note_66 : decode cX2_note 66 = .ok (.iload_n 2, 1) := by decide +kernel
theorem dX2_note_67 : decode cX2_note 67 = .ok (.isub, 1) := by decide +kernel
theorem dX2_note_68 : decode cX2_note 68 = .ok (.iastore, 1) := by decide +kernel
theorem dX2_note_69 : decode cX2_note 69 = .ok (.aload_n 0, 1) := by decide +kernel
theorem dX2_note_70 : decode cX2_note 70 = .ok (.getfield 16, 3) := by decide +kernel
theorem dX2_note_73 : decode cX2_note 73 = .ok (.iload_n 1, 1) := by decide +kernel
theorem dX2_note_74 : decode cX2_note 74 = .ok (.iaload, 1) := by decide +kernel
theorem dX2_note_75 : decode cX2_note 75 = .ok (.ireturn, 1) := by decide +kernel
theorem dX2_note_76 : decode cX2_note 76 = .ok (.iload_n 2, 1) := by decide +kernel
theorem dX2_note_77 : decode cX2_note 77 = .ok (.i2l, 1) := by decide +kernel
theorem dX2_note_78 : decode cX2_note 78 = .ok (.aload_n 0, 1) := by decide +kernel
theorem dX2_note_79 : decode cX2_note 79 = .ok (.getfield 28, 3) := by decide +kernel
theorem dX2_note_82 : decode cX2_note 82 = .ok (.iload_n 1, 1) := by decide +kernel
theorem dX2_note_83 : decode cX2_note 83 = .ok (.iaload, 1) := by decide +kernel
theorem dX2_note_84 : decode cX2_note 84 = .ok (.i2l, 1) := by decide +kernel
theorem dX2_note_85 : decode cX2_note 85 = .ok (.lmul, 1) := by decide +kernel
theorem dX2_note_86 : decode cX2_note 86 = .ok (.aload_n 0, 1) := by decide +kernel
theorem dX2_note_87 : decode cX2_note 87 = .ok (.getfield 16, 3) := by decide +kernel
theorem dX2_note_90 : decode cX2_note 90 = .ok (.iload_n 1, 1) := by decide +kernel
theorem dX2_note_91 : decode cX2_note 91 = .ok (.iaload, 1) := by decide +kernel
theorem dX2_note_92 : decode cX2_note 92 = .ok (.i2l, 1) := by decide +kernel
theorem dX2_note_93 : decode cX2_note 93 = .ok (.ldiv, 1) := by decide +kernel
theorem dX2_note_94 : decode cX2_note 94 = .ok (.l2i, 1) := by decide +kernel
theorem dX2_note_95 : decode cX2_note 95 = .ok (.istore 4, 2) := by decide +kernel
theorem dX2_note_97 : decode cX2_note 97 = .ok (.aload_n 0, 1) := by decide +kernel
theorem dX2_note_98 : decode cX2_note 98 = .ok (.getfield 34, 3) := by decide +kernel
theorem dX2_note_101 : decode cX2_note 101 = .ok (.iload_n 1, 1) := by decide +kernel
theorem dX2_note_102 : decode cX2_note 102 = .ok (.dup2, 1) := by decide +kernel
theorem dX2_note_103 : decode cX2_note 103 = .ok (.iaload, 1) := by decide +kernel
theorem dX2_note_104 : decode cX2_note 104 = .ok (.iload_n 2, 1) := by decide +kernel
theorem dX2_note_105 : decode cX2_note 105 = .ok (.iadd, 1) := by decide +kernel
theorem dX2_note_106 : decode cX2_note 106 = .ok (.iastore, 1) := by decide +kernel
theorem dX2_note_107 : decode cX2_note 107 = .ok (.aload_n 0, 1) := by decide +kernel
theorem dX2_note_108 : decode cX2_note 108 = .ok (.getfield 43, 3) := by decide +kernel
theorem dX2_note_111 : decode cX2_note 111 = .ok (.aload_n 0, 1) := by decide +kernel
theorem dX2_note_112 : decode cX2_note 112 = .ok (.iload_n 1, 1) := by decide +kernel
theorem dX2_note_113 : decode cX2_note 113 = .ok (.invokevirtual 84, 3) := by decide +kernel
theorem dX2_note_116 : decode cX2_note 116 = .ok (.dup2, 1) := by decide +kernel
theorem dX2_note_117 : decode cX2_note 117 = .ok (.iaload, 1) := by decide +kernel
theorem dX2_note_118 : decode cX2_note 118 = .ok (.iload 4, 2) := by decide +kernel
theorem dX2_note_120 : decode cX2_note 120 = .ok (.iadd, 1) := by decide +kernel
theorem dX2_note_121 : decode cX2_note 121 = .ok (.iastore, 1) := by decide +kernel
theorem dX2_note_122 : decode cX2_note 122 = .ok (.iload 4, 2) := by decide +kernel
theorem dX2_note_124 : decode cX2_note 124 = .ok (.ireturn, 1) := by decide +kernel
set_option maxRecDepth 20000 in
theorem ggX2_of_X2_is : GoodIn wsX2_of wsX2_is := goodIn_r _ [5, 6, 7, 8, 4, 9, 15, 16, 17, 18, 19, 20, 21, 22, 23, 24, 25, 26, 27, 28, 29, 30, 31, 32] (by decide +kernel) (by decide +kernel)
set_option maxRecDepth 20000 in
theorem gX2_of_X2_is : GoodIn wsX2_of (wsV RX2 88 RX2 yX2_is wsX2_is) := goodIn_app (goodIn_of _ (by decide +kernel)) ggX2_of_X2_is
set_option maxRecDepth 20000 in
theorem ggX2_of_X2_fails : GoodIn wsX2_of wsX2_fails := goodIn_r _ [13, 14, 15, 16, 17, 18, 19, 20, 21, 22, 23, 24, 25, 26, 27, 28, 29, 30, 31, 32] (by decide +kernel) (by decide +kernel)
set_option maxRecDepth 20000 in
theorem gX2_of_X2_fails : GoodIn wsX2_of (wsV RX2 70 RX2 yX2_fails wsX2_fails) := goodIn_app (goodIn_of _ (by decide +kernel)) ggX2_of_X2_fails
theorem dX2_of_0 : decode cX2_of 0 = .ok (.aload_n 0, 1) := by decide +kernel
theorem dX2_of_1 : decode cX2_of 1 = .ok (.aload_n 0, 1) := by decide +kernel
theorem dX2_of_2 : decode cX2_of 2 = .ok (.iload_n 2, 1) := by decide +kernel
theorem dX2_of_3 : decode cX2_of 3 = .ok (.invokevirtual 88, 3) := by decide +kernel
theorem dX2_of_6 : decode cX2_of 6 = .ok (.ifCond .eq 7, 3) := by decide +kernel
theorem dX2_of_9 : decode cX2_of 9 = .ok (.iconst 0, 1) := by decide +kernel
theorem dX2_of_10 : decode cX2_of 10 = .ok (.goto 4, 3) := by decide +kernel
theorem dX2_of_13 : decode cX2_of 13 = .ok (.iconst 1, 1) := by decide +kernel
theorem dX2_of_14 : decode cX2_of 14 = .ok (.invokevirtual 70, 3) := by decide +kernel
theorem dX2_of_17 : decode cX2_of 17 = .ok (.ifCond .eq 7, 3) := by decide +kernel
theorem dX2_of_20 : decode cX2_of 20 = .ok (.iconst 0, 1) := by decide +kernel
theorem dX2_of_21 : decode cX2_of 21 = .ok (.goto 6, 3) := by decide +kernel
theorem dX2_of_24 : decode cX2_of 24 = .ok (.aload_n 1, 1) := by decide +kernel
theorem dX2_of_25 : decode cX2_of 25 = .ok (.iload_n 2, 1) := by decide +kernel
theorem dX2_of_26 : decode cX2_of 26 = .ok (.iaload, 1) := by decide +kernel
theorem dX2_of_27 : decode cX2_of 27 = .ok (.ireturn, 1) := by decide +kernel
set_option maxRecDepth 20000 in
theorem ggX2_state_X2_of : GoodIn wsX2_state wsX2_of := goodIn_r _ [6, 7, 8, 9, 5, 10, 11, 12, 13, 14, 15, 16, 17, 18, 19, 20, 21, 22, 23, 24, 25, 26, 27, 28, 29, 30, 31, 32, 33, 34, 35, 36, 37] (by decide +kernel) (by decide +kernel)
set_option maxRecDepth 20000 in
theorem gX2_state_X2_of : GoodIn wsX2_state (wsV RX2 95 RX2 yX2_of wsX2_of) := goodIn_app (goodIn_of _ (by decide +kernel)) ggX2_state_X2_of
theorem dX2_state_0 : decode cX2_state 0 = .ok (.aload_n 0, 1) := by decide +kernel
theorem dX2_state_1 : decode cX2_state 1 = .ok (.aload_n 0, 1) := by decide +kernel
theorem dX2_state_2 : decode cX2_state 2 = .ok (.getfield 22, 3) := by decide +kernel
theorem dX2_state_5 : decode cX2_state 5 = .ok (.iload_n 1, 1) := by decide +kernel
theorem dX2_state_6 : decode cX2_state 6 = .ok (.invokevirtual 95, 3) := by decide +kernel
theorem dX2_state_9 : decode cX2_state 9 = .ok (.ireturn, 1) := by decide +kernel
set_option maxRecDepth 20000 in
theorem ggX2_amount_X2_of : GoodIn wsX2_amount wsX2_of := goodIn_r _ [6, 7, 8, 9, 5, 10, 11, 12, 13, 14, 15, 16, 17, 18, 19, 20, 21, 22, 23, 24, 25, 26, 27, 28, 29, 30, 31, 32, 33, 34, 35, 36, 37] (by decide +kernel) (by decide +kernel)
set_option maxRecDepth 20000 in
theorem gX2_amount_X2_of : GoodIn wsX2_amount (wsV RX2 95 RX2 yX2_of wsX2_of) := goodIn_app (goodIn_of _ (by decide +kernel)) ggX2_amount_X2_of
theorem dX2_amount_0 : decode cX2_amount 0 = .ok (.aload_n 0, 1) := by decide +kernel
theorem dX2_amount_1 : decode cX2_amount 1 = .ok (.aload_n 0, 1) := by decide +kernel
theorem dX2_amount_2 : decode cX2_amount 2 = .ok (.getfield 16, 3) := by decide +kernel
theorem dX2_amount_5 : decode cX2_amount 5 = .ok (.iload_n 1, 1) := by decide +kernel
theorem dX2_amount_6 : decode cX2_amount 6 = .ok (.invokevirtual 95, 3) := by decide +kernel
theorem dX2_amount_9 : decode cX2_amount 9 = .ok (.ireturn, 1) := by decide +kernel
set_option maxRecDepth 20000 in
theorem ggX2_paid_X2_of : GoodIn wsX2_paid wsX2_of := goodIn_r _ [6, 7, 8, 9, 5, 10, 11, 12, 13, 14, 15, 16, 17, 18, 19, 20, 21, 22, 23, 24, 25, 26, 27, 28, 29, 30, 31, 32, 33, 34, 35, 36, 37] (by decide +kernel) (by decide +kernel)
set_option maxRecDepth 20000 in
theorem gX2_paid_X2_of : GoodIn wsX2_paid (wsV RX2 95 RX2 yX2_of wsX2_of) := goodIn_app (goodIn_of _ (by decide +kernel)) ggX2_paid_X2_of
theorem dX2_paid_0 : decode cX2_paid 0 = .ok (.aload_n 0, 1) := by decide +kernel
theorem dX2_paid_1 : decode cX2_paid 1 = .ok (.aload_n 0, 1) := by decide +kernel
theorem dX2_paid_2 : decode cX2_paid 2 = .ok (.getfield 28, 3) := by decide +kernel
theorem dX2_paid_5 : decode cX2_paid 5 = .ok (.iload_n 1, 1) := by decide +kernel
theorem dX2_paid_6 : decode cX2_paid 6 = .ok (.invokevirtual 95, 3) := by decide +kernel
theorem dX2_paid_9 : decode cX2_paid 9 = .ok (.ireturn, 1) := by decide +kernel
set_option maxRecDepth 20000 in
theorem ggX2_heldBack_X2_of : GoodIn wsX2_heldBack wsX2_of := goodIn_r _ [6, 7, 8, 9, 5, 10, 11, 12, 13, 14, 15, 16, 17, 18, 19, 20, 21, 22, 23, 24, 25, 26, 27, 28, 29, 30, 31, 32, 33, 34, 35, 36, 37] (by decide +kernel) (by decide +kernel)
set_option maxRecDepth 20000 in
theorem gX2_heldBack_X2_of : GoodIn wsX2_heldBack (wsV RX2 95 RX2 yX2_of wsX2_of) := goodIn_app (goodIn_of _ (by decide +kernel)) ggX2_heldBack_X2_of
theorem dX2_heldBack_0 : decode cX2_heldBack 0 = .ok (.aload_n 0, 1) := by decide +kernel
theorem dX2_heldBack_1 : decode cX2_heldBack 1 = .ok (.aload_n 0, 1) := by decide +kernel
theorem dX2_heldBack_2 : decode cX2_heldBack 2 = .ok (.getfield 31, 3) := by decide +kernel
theorem dX2_heldBack_5 : decode cX2_heldBack 5 = .ok (.iload_n 1, 1) := by decide +kernel
theorem dX2_heldBack_6 : decode cX2_heldBack 6 = .ok (.invokevirtual 95, 3) := by decide +kernel
theorem dX2_heldBack_9 : decode cX2_heldBack 9 = .ok (.ireturn, 1) := by decide +kernel
theorem dX2_discount_0 : decode cX2_discount 0 = .ok (.aload_n 0, 1) := by decide +kernel
theorem dX2_discount_1 : decode cX2_discount 1 = .ok (.getfield 16, 3) := by decide +kernel
theorem dX2_discount_4 : decode cX2_discount 4 = .ok (.iload_n 1, 1) := by decide +kernel
theorem dX2_discount_5 : decode cX2_discount 5 = .ok (.iaload, 1) := by decide +kernel
theorem dX2_discount_6 : decode cX2_discount 6 = .ok (.i2l, 1) := by decide +kernel
theorem dX2_discount_7 : decode cX2_discount 7 = .ok (.aload_n 0, 1) := by decide +kernel
theorem dX2_discount_8 : decode cX2_discount 8 = .ok (.getfield 25, 3) := by decide +kernel
theorem dX2_discount_11 : decode cX2_discount 11 = .ok (.iload_n 1, 1) := by decide +kernel
theorem dX2_discount_12 : decode cX2_discount 12 = .ok (.iaload, 1) := by decide +kernel
theorem dX2_discount_13 : decode cX2_discount 13 = .ok (.i2l, 1) := by decide +kernel
theorem dX2_discount_14 : decode cX2_discount 14 = .ok (.lmul, 1) := by decide +kernel
theorem dX2_discount_15 : decode cX2_discount 15 = .ok (.aload_n 0, 1) := by decide +kernel
theorem dX2_discount_16 : decode cX2_discount 16 = .ok (.getfield 19, 3) := by decide +kernel
theorem dX2_discount_19 : decode cX2_discount 19 = .ok (.iload_n 1, 1) := by decide +kernel
theorem dX2_discount_20 : decode cX2_discount 20 = .ok (.iaload, 1) := by decide +kernel
theorem dX2_discount_21 : decode cX2_discount 21 = .ok (.aload_n 0, 1) := by decide +kernel
theorem dX2_discount_22 : decode cX2_discount 22 = .ok (.getfield 81, 3) := by decide +kernel
theorem dX2_discount_25 : decode cX2_discount 25 = .ok (.isub, 1) := by decide +kernel
theorem dX2_discount_26 : decode cX2_discount 26 = .ok (.i2l, 1) := by decide +kernel
theorem dX2_discount_27 : decode cX2_discount 27 = .ok (.lmul, 1) := by decide +kernel
theorem dX2_discount_28 : decode cX2_discount 28 = .ok (.ldc2_w 99, 3) := by decide +kernel
theorem dX2_discount_31 : decode cX2_discount 31 = .ok (.ldiv, 1) := by decide +kernel
theorem dX2_discount_32 : decode cX2_discount 32 = .ok (.l2i, 1) := by decide +kernel
theorem dX2_discount_33 : decode cX2_discount 33 = .ok (.ireturn, 1) := by decide +kernel
set_option maxRecDepth 20000 in
theorem ggX2_price_X2_discount : GoodIn wsX2_price wsX2_discount := goodIn_r _ [6, 1, 7, 8, 9, 10, 11, 12, 13, 14, 15, 16, 17, 18, 19, 20, 21, 22, 23, 24, 25, 26, 27, 28] (by decide +kernel) (by decide +kernel)
set_option maxRecDepth 20000 in
theorem gX2_price_X2_discount : GoodIn wsX2_price (wsV RX2 101 RX2 yX2_discount wsX2_discount) := goodIn_app (goodIn_of _ (by decide +kernel)) ggX2_price_X2_discount
theorem dX2_price_0 : decode cX2_price 0 = .ok (.aload_n 0, 1) := by decide +kernel
theorem dX2_price_1 : decode cX2_price 1 = .ok (.getfield 16, 3) := by decide +kernel
theorem dX2_price_4 : decode cX2_price 4 = .ok (.iload_n 1, 1) := by decide +kernel
theorem dX2_price_5 : decode cX2_price 5 = .ok (.iaload, 1) := by decide +kernel
theorem dX2_price_6 : decode cX2_price 6 = .ok (.aload_n 0, 1) := by decide +kernel
theorem dX2_price_7 : decode cX2_price 7 = .ok (.iload_n 1, 1) := by decide +kernel
theorem dX2_price_8 : decode cX2_price 8 = .ok (.invokevirtual 101, 3) := by decide +kernel
theorem dX2_price_11 : decode cX2_price 11 = .ok (.isub, 1) := by decide +kernel
theorem dX2_price_12 : decode cX2_price 12 = .ok (.ireturn, 1) := by decide +kernel
set_option maxRecDepth 20000 in
theorem ggX2_offer_X2_is : GoodIn wsX2_offer wsX2_is := goodIn_r _ [9, 10, 11, 12, 8, 13, 29, 30, 31, 32, 33, 34, 35, 36, 37, 38, 39, 40, 41, 42, 43, 44, 45, 46] (by decide +kernel) (by decide +kernel)
set_option maxRecDepth 20000 in
theorem gX2_offer_X2_is : GoodIn wsX2_offer (wsV RX2 88 RX2 yX2_is wsX2_is) := goodIn_app (goodIn_of _ (by decide +kernel)) ggX2_offer_X2_is
set_option maxRecDepth 20000 in
theorem ggX2_offer_X2_isIn : GoodIn wsX2_offer wsX2_isIn := goodIn_r _ [13] (by decide +kernel) (by decide +kernel)
set_option maxRecDepth 20000 in
theorem gX2_offer_X2_isIn : GoodIn wsX2_offer (va_wsS RX2 61 yX2_isIn wsX2_isIn) := goodIn_app (goodIn_of _ (by decide +kernel)) ggX2_offer_X2_isIn
set_option maxRecDepth 20000 in
theorem ggX2_offer_X2_fails : GoodIn wsX2_offer wsX2_fails := goodIn_r _ [17, 18, 29, 30, 31, 32, 33, 34, 35, 36, 37, 38, 39, 40, 41, 42, 43, 44, 45, 46] (by decide +kernel) (by decide +kernel)
set_option maxRecDepth 20000 in
theorem gX2_offer_X2_fails : GoodIn wsX2_offer (wsV RX2 70 RX2 yX2_fails wsX2_fails) := goodIn_app (goodIn_of _ (by decide +kernel)) ggX2_offer_X2_fails
set_option maxRecDepth 20000 in
theorem ggX2_offer_X2_price : GoodIn wsX2_offer wsX2_price := goodIn_r _ [22, 23, 24, 25, 26, 8, 27, 4, 2, 3, 28, 29, 30, 31, 32, 33, 34, 35, 36, 37, 38, 39, 40, 41, 42, 43, 44, 45, 46] (by decide +kernel) (by decide +kernel)
set_option maxRecDepth 20000 in
theorem gX2_offer_X2_price : GoodIn wsX2_offer (wsV RX2 104 RX2 yX2_price wsX2_price) := goodIn_app (goodIn_of _ (by decide +kernel)) ggX2_offer_X2_price
theorem dX2_offer_0 : decode cX2_offer 0 = .ok (.aload_n 0, 1) := by decide +kernel
theorem dX2_offer_1 : decode cX2_offer 1 = .ok (.iload_n 1, 1) := by decide +kernel
theorem dX2_offer_2 : decode cX2_offer 2 = .ok (.invokevirtual 88, 3) := by decide +kernel
theorem dX2_offer_5 : decode cX2_offer 5 = .ok (.istore_n 3, 1) := by decide +kernel
theorem dX2_offer_6 : decode cX2_offer 6 = .ok (.aload_n 0, 1) := by decide +kernel
theorem dX2_offer_7 : decode cX2_offer 7 = .ok (.iload_n 3, 1) := by decide +kernel
theorem dX2_offer_8 : decode cX2_offer 8 = .ok (.ifCond .ne 7, 3) := by decide +kernel
theorem dX2_offer_11 : decode cX2_offer 11 = .ok (.iconst 1, 1) := by decide +kernel
theorem dX2_offer_12 : decode cX2_offer 12 = .ok (.goto 46, 3) := by decide +kernel
theorem dX2_offer_15 : decode cX2_offer 15 = .ok (.iload_n 2, 1) := by decide +kernel
theorem dX2_offer_16 : decode cX2_offer 16 = .ok (.iconst 0, 1) := by decide +kernel
theorem dX2_offer_17 : decode cX2_offer 17 = .ok (.sipush 5000, 3) := by decide +kernel
theorem dX2_offer_20 : decode cX2_offer 20 = .ok (.invokestatic 61, 3) := by decide +kernel
theorem dX2_offer_23 : decode cX2_offer 23 = .ok (.ifCond .ne 7, 3) := by decide +kernel
theorem dX2_offer_26 : decode cX2_offer 26 = .ok (.iconst 2, 1) := by decide +kernel
theorem dX2_offer_27 : decode cX2_offer 27 = .ok (.goto 31, 3) := by decide +kernel
theorem dX2_offer_30 : decode cX2_offer 30 = .ok (.aload_n 0, 1) := by decide +kernel
theorem dX2_offer_31 : decode cX2_offer 31 = .ok (.getfield 22, 3) := by decide +kernel
theorem dX2_offer_34 : decode cX2_offer 34 = .ok (.iload_n 1, 1) := by decide +kernel
theorem dX2_offer_35 : decode cX2_offer 35 = .ok (.iaload, 1) := by decide +kernel
theorem dX2_offer_36 : decode cX2_offer 36 = .ok (.iconst 1, 1) := by decide +kernel
theorem dX2_offer_37 : decode cX2_offer 37 = .ok (.if_icmp .ne 20, 3) := by decide +kernel
theorem dX2_offer_40 : decode cX2_offer 40 = .ok (.aload_n 0, 1) := by decide +kernel
theorem dX2_offer_41 : decode cX2_offer 41 = .ok (.getfield 19, 3) := by decide +kernel
theorem dX2_offer_44 : decode cX2_offer 44 = .ok (.iload_n 1, 1) := by decide +kernel
theorem dX2_offer_45 : decode cX2_offer 45 = .ok (.iaload, 1) := by decide +kernel
theorem dX2_offer_46 : decode cX2_offer 46 = .ok (.aload_n 0, 1) := by decide +kernel
theorem dX2_offer_47 : decode cX2_offer 47 = .ok (.getfield 81, 3) := by decide +kernel
theorem dX2_offer_50 : decode cX2_offer 50 = .ok (.if_icmp .le 7, 3) := by decide +kernel
theorem dX2_offer_53 : decode cX2_offer 53 = .ok (.iconst 0, 1) := by decide +kernel
theorem dX2_offer_54 : decode cX2_offer 54 = .ok (.goto 4, 3) := by decide +kernel
theorem dX2_offer_57 : decode cX2_offer 57 = .ok (.iconst 3, 1) := by decide +kernel
theorem dX2_offer_58 : decode cX2_offer 58 = .ok (.invokevirtual 70, 3) := by decide +kernel
theorem dX2_offer_61 : decode cX2_offer 61 = .ok (.ifCond .eq 5, 3) := by decide +kernel
theorem dX2_offer_64 : decode cX2_offer 64 = .ok (.iconst 0, 1) := by decide +kernel
theorem dX2_offer_65 : decode cX2_offer 65 = .ok (.ireturn, 1) := by decide +kernel
theorem dX2_offer_66 : decode cX2_offer 66 = .ok (.aload_n 0, 1) := by decide +kernel
theorem dX2_offer_67 : decode cX2_offer 67 = .ok (.getfield 25, 3) := by decide +kernel
theorem dX2_offer_70 : decode cX2_offer 70 = .ok (.iload_n 1, 1) := by decide +kernel
theorem dX2_offer_71 : decode cX2_offer 71 = .ok (.iload_n 2, 1) := by decide +kernel
theorem dX2_offer_72 : decode cX2_offer 72 = .ok (.iastore, 1) := by decide +kernel
theorem dX2_offer_73 : decode cX2_offer 73 = .ok (.aload_n 0, 1) := by decide +kernel
theorem dX2_offer_74 : decode cX2_offer 74 = .ok (.iload_n 1, 1) := by decide +kernel
theorem dX2_offer_75 : decode cX2_offer 75 = .ok (.invokevirtual 104, 3) := by decide +kernel
theorem dX2_offer_78 : decode cX2_offer 78 = .ok (.ireturn, 1) := by decide +kernel
set_option maxRecDepth 20000 in
theorem ggX2_takeBack_X2_is : GoodIn wsX2_takeBack wsX2_is := goodIn_r _ [7, 8, 9, 10, 6, 11, 17, 18, 19, 20, 21, 22, 23, 24, 25, 26, 27, 28, 29, 30, 31, 32, 33, 34] (by decide +kernel) (by decide +kernel)
set_option maxRecDepth 20000 in
theorem gX2_takeBack_X2_is : GoodIn wsX2_takeBack (wsV RX2 88 RX2 yX2_is wsX2_is) := goodIn_app (goodIn_of _ (by decide +kernel)) ggX2_takeBack_X2_is
set_option maxRecDepth 20000 in
theorem ggX2_takeBack_X2_fails : GoodIn wsX2_takeBack wsX2_fails := goodIn_r _ [15, 16, 17, 18, 19, 20, 21, 22, 23, 24, 25, 26, 27, 28, 29, 30, 31, 32, 33, 34] (by decide +kernel) (by decide +kernel)
set_option maxRecDepth 20000 in
theorem gX2_takeBack_X2_fails : GoodIn wsX2_takeBack (wsV RX2 70 RX2 yX2_fails wsX2_fails) := goodIn_app (goodIn_of _ (by decide +kernel)) ggX2_takeBack_X2_fails
theorem dX2_takeBack_0 : decode cX2_takeBack 0 = .ok (.aload_n 0, 1) := by decide +kernel
theorem dX2_takeBack_1 : decode cX2_takeBack 1 = .ok (.iload_n 1, 1) := by decide +kernel
theorem dX2_takeBack_2 : decode cX2_takeBack 2 = .ok (.invokevirtual 88, 3) := by decide +kernel
theorem dX2_takeBack_5 : decode cX2_takeBack 5 = .ok (.istore_n 2, 1) := by decide +kernel
theorem dX2_takeBack_6 : decode cX2_takeBack 6 = .ok (.aload_n 0, 1) := by decide +kernel
theorem dX2_takeBack_7 : decode cX2_takeBack 7 = .ok (.iload_n 2, 1) := by decide +kernel
theorem dX2_takeBack_8 : decode cX2_takeBack 8 = .ok (.ifCond .ne 7, 3) := by decide +kernel
theorem dX2_takeBack_11 : decode cX2_takeBack 11 = .ok (.iconst 1, 1) := by decide +kernel
theorem dX2_takeBack_12 : decode cX2_takeBack 12 = .ok (.goto 28, 3) := by decide +kernel
theorem dX2_takeBack_15 : decode cX2_takeBack 15 = .ok (.aload_n 0, 1) := by decide +kernel
theorem dX2_takeBack_16 : decode cX2_takeBack 16 = .ok (.getfield 25, 3) := by decide +kernel
theorem dX2_takeBack_19 : decode cX2_takeBack 19 = .ok (.iload_n 1, 1) := by decide +kernel
theorem dX2_takeBack_20 : decode cX2_takeBack 20 = .ok (.iaload, 1) := by decide +kernel
theorem dX2_takeBack_21 : decode cX2_takeBack 21 = .ok (.iconst (-1), 1) := by decide +kernel
theorem dX2_takeBack_22 : decode cX2_takeBack 22 = .ok (.if_icmp .eq 13, 3) := by decide +kernel
theorem dX2_takeBack_25 : decode cX2_takeBack 25 = .ok (.aload_n 0, 1) := by decide +kernel
theorem dX2_takeBack_26 : decode cX2_takeBack 26 = .ok (.getfield 22, 3) := by decide +kernel
theorem dX2_takeBack_29 : decode cX2_takeBack 29 = .ok (.iload_n 1, 1) := by decide +kernel
theorem dX2_takeBack_30 : decode cX2_takeBack 30 = .ok (.iaload, 1) := by decide +kernel
theorem dX2_takeBack_31 : decode cX2_takeBack 31 = .ok (.iconst 3, 1) := by decide +kernel
theorem dX2_takeBack_32 : decode cX2_takeBack 32 = .ok (.if_icmp .lt 7, 3) := by decide +kernel
theorem dX2_takeBack_35 : decode cX2_takeBack 35 = .ok (.iconst 2, 1) := by decide +kernel
theorem dX2_takeBack_36 : decode cX2_takeBack 36 = .ok (.goto 4, 3) := by decide +kernel
theorem dX2_takeBack_39 : decode cX2_takeBack 39 = .ok (.iconst 0, 1) := by decide +kernel
theorem dX2_takeBack_40 : decode cX2_takeBack 40 = .ok (.invokevirtual 70, 3) := by decide +kernel
theorem dX2_takeBack_43 : decode cX2_takeBack 43 = .ok (.ifCond .eq 5, 3) := by decide +kernel
theorem dX2_takeBack_46 : decode cX2_takeBack 46 = .ok (.iconst 0, 1) := by decide +kernel
theorem dX2_takeBack_47 : decode cX2_takeBack 47 = .ok (.ireturn, 1) := by decide +kernel
theorem dX2_takeBack_48 : decode cX2_takeBack 48 = .ok (.aload_n 0, 1) := by decide +kernel
theorem dX2_takeBack_49 : decode cX2_takeBack 49 = .ok (.getfield 25, 3) := by decide +kernel
theorem dX2_takeBack_52 : decode cX2_takeBack 52 = .ok (.iload_n 1, 1) := by decide +kernel
theorem dX2_takeBack_53 : decode cX2_takeBack 53 = .ok (.iaload, 1) := by decide +kernel
theorem dX2_takeBack_54 : decode cX2_takeBack 54 = .ok (.istore_n 3, 1) := by decide +kernel
theorem dX2_takeBack_55 : decode cX2_takeBack 55 = .ok (.aload_n 0, 1) := by decide +kernel
theorem dX2_takeBack_56 : decode cX2_takeBack 56 = .ok (.getfield 25, 3) := by decide +kernel
theorem dX2_takeBack_59 : decode cX2_takeBack 59 = .ok (.iload_n 1, 1) := by decide +kernel
theorem dX2_takeBack_60 : decode cX2_takeBack 60 = .ok (.iconst (-1), 1) := by decide +kernel
theorem dX2_takeBack_61 : decode cX2_takeBack 61 = .ok (.iastore, 1) := by decide +kernel
theorem dX2_takeBack_62 : decode cX2_takeBack 62 = .ok (.iload_n 3, 1) := by decide +kernel
theorem dX2_takeBack_63 : decode cX2_takeBack 63 = .ok (.ireturn, 1) := by decide +kernel
theorem dX2_isOffer_0 : decode cX2_isOffer 0 = .ok (.aload_n 0, 1) := by decide +kernel
theorem dX2_isOffer_1 : decode cX2_isOffer 1 = .ok (.getfield 7, 3) := by decide +kernel
theorem dX2_isOffer_4 : decode cX2_isOffer 4 = .ok (.iload_n 1, 1) := by decide +kernel
theorem dX2_isOffer_5 : decode cX2_isOffer 5 = .ok (.iaload, 1) := by decide +kernel
theorem dX2_isOffer_6 : decode cX2_isOffer 6 = .ok (.iload_n 2, 1) := by decide +kernel
theorem dX2_isOffer_7 : decode cX2_isOffer 7 = .ok (.if_icmp .ne 40, 3) := by decide +kernel
theorem dX2_isOffer_10 : decode cX2_isOffer 10 = .ok (.aload_n 0, 1) := by decide +kernel
theorem dX2_isOffer_11 : decode cX2_isOffer 11 = .ok (.getfield 22, 3) := by decide +kernel
theorem dX2_isOffer_14 : decode cX2_isOffer 14 = .ok (.iload_n 1, 1) := by decide +kernel
theorem dX2_isOffer_15 : decode cX2_isOffer 15 = .ok (.iaload, 1) := by decide +kernel
theorem dX2_isOffer_16 : decode cX2_isOffer 16 = .ok (.iconst 1, 1) := by decide +kernel
theorem dX2_isOffer_17 : decode cX2_isOffer 17 = .ok (.if_icmp .ne 30, 3) := by decide +kernel
theorem dX2_isOffer_20 : decode cX2_isOffer 20 = .ok (.aload_n 0, 1) := by decide +kernel
theorem dX2_isOffer_21 : decode cX2_isOffer 21 = .ok (.getfield 25, 3) := by decide +kernel
theorem dX2_isOffer_24 : decode cX2_isOffer 24 = .ok (.iload_n 1, 1) := by decide +kernel
theorem dX2_isOffer_25 : decode cX2_isOffer 25 = .ok (.iaload, 1) := by decide +kernel
theorem dX2_isOffer_26 : decode cX2_isOffer 26 = .ok (.iconst (-1), 1) := by decide +kernel
theorem dX2_isOffer_27 : decode cX2_isOffer 27 = .ok (.if_icmp .eq 20, 3) := by decide +kernel
theorem dX2_isOffer_30 : decode cX2_isOffer 30 = .ok (.aload_n 0, 1) := by decide +kernel
theorem dX2_isOffer_31 : decode cX2_isOffer 31 = .ok (.getfield 19, 3) := by decide +kernel
theorem dX2_isOffer_34 : decode cX2_isOffer 34 = .ok (.iload_n 1, 1) := by decide +kernel
theorem dX2_isOffer_35 : decode cX2_isOffer 35 = .ok (.iaload, 1) := by decide +kernel
theorem dX2_isOffer_36 : decode cX2_isOffer 36 = .ok (.aload_n 0, 1) := by decide +kernel
theorem dX2_isOffer_37 : decode cX2_isOffer 37 = .ok (.getfield 81, 3) := by decide +kernel
theorem dX2_isOffer_40 : decode cX2_isOffer 40 = .ok (.if_icmp .le 7, 3) := by decide +kernel
theorem dX2_isOffer_43 : decode cX2_isOffer 43 = .ok (.iconst 1, 1) := by decide +kernel
theorem dX2_isOffer_44 : decode cX2_isOffer 44 = .ok (.goto 4, 3) := by decide +kernel
theorem dX2_isOffer_47 : decode cX2_isOffer 47 = .ok (.iconst 0, 1) := by decide +kernel
theorem dX2_isOffer_48 : decode cX2_isOffer 48 = .ok (.ireturn, 1) := by decide +kernel
theorem dX2_leftOf_0 : decode cX2_leftOf 0 = .ok (.aload_n 0, 1) := by decide +kernel
theorem dX2_leftOf_1 : decode cX2_leftOf 1 = .ok (.getfield 40, 3) := by decide +kernel
theorem dX2_leftOf_4 : decode cX2_leftOf 4 = .ok (.bipush 8, 2) := by decide +kernel
theorem dX2_leftOf_6 : decode cX2_leftOf 6 = .ok (.iload_n 1, 1) := by decide +kernel
theorem dX2_leftOf_7 : decode cX2_leftOf 7 = .ok (.imul, 1) := by decide +kernel
theorem dX2_leftOf_8 : decode cX2_leftOf 8 = .ok (.iload_n 2, 1) := by decide +kernel
theorem dX2_leftOf_9 : decode cX2_leftOf 9 = .ok (.iadd, 1) := by decide +kernel
theorem dX2_leftOf_10 : decode cX2_leftOf 10 = .ok (.iaload, 1) := by decide +kernel
theorem dX2_leftOf_11 : decode cX2_leftOf 11 = .ok (.istore_n 3, 1) := by decide +kernel
theorem dX2_leftOf_12 : decode cX2_leftOf 12 = .ok (.iconst 0, 1) := by decide +kernel
theorem dX2_leftOf_13 : decode cX2_leftOf 13 = .ok (.istore 4, 2) := by decide +kernel
theorem dX2_leftOf_15 : decode cX2_leftOf 15 = .ok (.iload 4, 2) := by decide +kernel
theorem dX2_leftOf_17 : decode cX2_leftOf 17 = .ok (.aload_n 0, 1) := by decide +kernel
theorem dX2_leftOf_18 : decode cX2_leftOf 18 = .ok (.getfield 77, 3) := by decide +kernel
theorem dX2_leftOf_21 : decode cX2_leftOf 21 = .ok (.if_icmp .ge 70, 3) := by decide +kernel
theorem dX2_leftOf_24 : decode cX2_leftOf 24 = .ok (.iload_n 3, 1) := by decide +kernel
theorem dX2_leftOf_25 : decode cX2_leftOf 25 = .ok (.aload_n 0, 1) := by decide +kernel
theorem dX2_leftOf_26 : decode cX2_leftOf 26 = .ok (.getfield 7, 3) := by decide +kernel
theorem dX2_leftOf_29 : decode cX2_leftOf 29 = .ok (.iload 4, 2) := by decide +kernel
theorem dX2_leftOf_31 : decode cX2_leftOf 31 = .ok (.iaload, 1) := by decide +kernel
theorem dX2_leftOf_32 : decode cX2_leftOf 32 = .ok (.iload_n 1, 1) := by decide +kernel
theorem dX2_leftOf_33 : decode cX2_leftOf 33 = .ok (.if_icmp .ne 49, 3) := by decide +kernel
theorem dX2_leftOf_36 : decode cX2_leftOf 36 = .ok (.aload_n 0, 1) := by decide +kernel
theorem dX2_leftOf_37 : decode cX2_leftOf 37 = .ok (.getfield 13, 3) := by decide +kernel
theorem dX2_leftOf_40 : decode cX2_leftOf 40 = .ok (.iload 4, 2) := by decide +kernel
theorem dX2_leftOf_42 : decode cX2_leftOf 42 = .ok (.iaload, 1) := by decide +kernel
theorem dX2_leftOf_43 : decode cX2_leftOf 43 = .ok (.iload_n 2, 1) := by decide +kernel
theorem dX2_leftOf_44 : decode cX2_leftOf 44 = .ok (.if_icmp .ne 38, 3) := by decide +kernel
theorem dX2_leftOf_47 : decode cX2_leftOf 47 = .ok (.aload_n 0, 1) := by decide +kernel
theorem dX2_leftOf_48 : decode cX2_leftOf 48 = .ok (.getfield 22, 3) := by decide +kernel
theorem dX2_leftOf_51 : decode cX2_leftOf 51 = .ok (.iload 4, 2) := by decide +kernel
theorem dX2_leftOf_53 : decode cX2_leftOf 53 = .ok (.iaload, 1) := by decide +kernel
theorem dX2_leftOf_54 : decode cX2_leftOf 54 = .ok (.iconst 3, 1) := by decide +kernel
theorem dX2_leftOf_55 : decode cX2_leftOf 55 = .ok (.if_icmp .ne 27, 3) := by decide +kernel
theorem dX2_leftOf_58 : decode cX2_leftOf 58 = .ok (.aload_n 0, 1) := by decide +kernel
theorem dX2_leftOf_59 : decode cX2_leftOf 59 = .ok (.getfield 19, 3) := by decide +kernel
theorem dX2_leftOf_62 : decode cX2_leftOf 62 = .ok (.iload 4, 2) := by decide +kernel
theorem dX2_leftOf_64 : decode cX2_leftOf 64 = .ok (.iaload, 1) := by decide +kernel
theorem dX2_leftOf_65 : decode cX2_leftOf 65 = .ok (.aload_n 0, 1) := by decide +kernel
theorem dX2_leftOf_66 : decode cX2_leftOf 66 = .ok (.getfield 81, 3) := by decide +kernel
theorem dX2_leftOf_69 : decode cX2_leftOf 69 = .ok (.if_icmp .le 13, 3) := by decide +kernel
theorem dX2_leftOf_72 : decode cX2_leftOf 72 = .ok (.aload_n 0, 1) := by decide +kernel
theorem dX2_leftOf_73 : decode cX2_leftOf 73 = .ok (.getfield 28, 3) := by decide +kernel
theorem dX2_leftOf_76 : decode cX2_leftOf 76 = .ok (.iload 4, 2) := by decide +kernel
theorem dX2_leftOf_78 : decode cX2_leftOf 78 = .ok (.iaload, 1) := by decide +kernel
theorem dX2_leftOf_79 : decode cX2_leftOf 79 = .ok (.goto 4, 3) := by decide +kernel
theorem dX2_leftOf_82 : decode cX2_leftOf 82 = .ok (.iconst 0, 1) := by decide +kernel
theorem dX2_leftOf_83 : decode cX2_leftOf 83 = .ok (.isub, 1) := by decide +kernel
theorem dX2_leftOf_84 : decode cX2_leftOf 84 = .ok (.istore_n 3, 1) := by decide +kernel
theorem dX2_leftOf_85 : decode cX2_leftOf 85 = .ok (.iinc 4 1, 3) := by decide +kernel
theorem dX2_leftOf_88 : decode cX2_leftOf 88 = .ok (.goto (-73), 3) := by decide +kernel
theorem dX2_leftOf_91 : decode cX2_leftOf 91 = .ok (.iload_n 3, 1) := by decide +kernel
theorem dX2_leftOf_92 : decode cX2_leftOf 92 = .ok (.ireturn, 1) := by decide +kernel
set_option maxRecDepth 20000 in
theorem ggX2_next_X2_isOffer : GoodIn wsX2_next wsX2_isOffer := goodIn_r _ [7, 8, 9, 2, 10, 11, 12, 13, 14, 15, 16, 17, 18, 19, 20, 21, 22, 23, 24, 25, 26, 27, 28, 29] (by decide +kernel) (by decide +kernel)
set_option maxRecDepth 20000 in
theorem gX2_next_X2_isOffer : GoodIn wsX2_next (wsV RX2 107 RX2 yX2_isOffer wsX2_isOffer) := goodIn_app (goodIn_of _ (by decide +kernel)) ggX2_next_X2_isOffer
theorem dX2_next_0 : decode cX2_next 0 = .ok (.iconst (-1), 1) := by decide +kernel
theorem dX2_next_1 : decode cX2_next 1 = .ok (.istore_n 3, 1) := by decide +kernel
theorem dX2_next_2 : decode cX2_next 2 = .ok (.iconst 0, 1) := by decide +kernel
theorem dX2_next_3 : decode cX2_next 3 = .ok (.istore 4, 2) := by decide +kernel
theorem dX2_next_5 : decode cX2_next 5 = .ok (.iload 4, 2) := by decide +kernel
theorem dX2_next_7 : decode cX2_next 7 = .ok (.aload_n 0, 1) := by decide +kernel
theorem dX2_next_8 : decode cX2_next 8 = .ok (.getfield 77, 3) := by decide +kernel
theorem dX2_next_11 : decode cX2_next 11 = .ok (.if_icmp .ge 112, 3) := by decide +kernel
theorem dX2_next_14 : decode cX2_next 14 = .ok (.iload_n 2, 1) := by decide +kernel
theorem dX2_next_15 : decode cX2_next 15 = .ok (.iconst (-1), 1) := by decide +kernel
theorem dX2_next_16 : decode cX2_next 16 = .ok (.if_icmp .eq 51, 3) := by decide +kernel
theorem dX2_next_19 : decode cX2_next 19 = .ok (.aload_n 0, 1) := by decide +kernel
theorem dX2_next_20 : decode cX2_next 20 = .ok (.iload 4, 2) := by decide +kernel
theorem dX2_next_22 : decode cX2_next 22 = .ok (.iload_n 1, 1) := by decide +kernel
theorem dX2_next_23 : decode cX2_next 23 = .ok (.invokevirtual 107, 3) := by decide +kernel
theorem dX2_next_26 : decode cX2_next 26 = .ok (.ifCond .eq 45, 3) := by decide +kernel
theorem dX2_next_29 : decode cX2_next 29 = .ok (.aload_n 0, 1) := by decide +kernel
theorem dX2_next_30 : decode cX2_next 30 = .ok (.getfield 25, 3) := by decide +kernel
theorem dX2_next_33 : decode cX2_next 33 = .ok (.iload 4, 2) := by decide +kernel
theorem dX2_next_35 : decode cX2_next 35 = .ok (.iaload, 1) := by decide +kernel
theorem dX2_next_36 : decode cX2_next 36 = .ok (.aload_n 0, 1) := by decide +kernel
theorem dX2_next_37 : decode cX2_next 37 = .ok (.getfield 25, 3) := by decide +kernel
theorem dX2_next_40 : decode cX2_next 40 = .ok (.iload_n 2, 1) := by decide +kernel
theorem dX2_next_41 : decode cX2_next 41 = .ok (.iaload, 1) := by decide +kernel
theorem dX2_next_42 : decode cX2_next 42 = .ok (.if_icmp .lt 25, 3) := by decide +kernel
theorem dX2_next_45 : decode cX2_next 45 = .ok (.aload_n 0, 1) := by decide +kernel
theorem dX2_next_46 : decode cX2_next 46 = .ok (.getfield 25, 3) := by decide +kernel
theorem dX2_next_49 : decode cX2_next 49 = .ok (.iload 4, 2) := by decide +kernel
theorem dX2_next_51 : decode cX2_next 51 = .ok (.iaload, 1) := by decide +kernel
theorem dX2_next_52 : decode cX2_next 52 = .ok (.aload_n 0, 1) := by decide +kernel
theorem dX2_next_53 : decode cX2_next 53 = .ok (.getfield 25, 3) := by decide +kernel
theorem dX2_next_56 : decode cX2_next 56 = .ok (.iload_n 2, 1) := by decide +kernel
theorem dX2_next_57 : decode cX2_next 57 = .ok (.iaload, 1) := by decide +kernel
theorem dX2_next_58 : decode cX2_next 58 = .ok (.if_icmp .ne 13, 3) := by decide +kernel
theorem dX2_next_61 : decode cX2_next 61 = .ok (.iload 4, 2) := by decide +kernel
theorem dX2_next_63 : decode cX2_next 63 = .ok (.iload_n 2, 1) := by decide +kernel
theorem dX2_next_64 : decode cX2_next 64 = .ok (.if_icmp .le 7, 3) := by decide +kernel
theorem dX2_next_67 : decode cX2_next 67 = .ok (.iconst 1, 1) := by decide +kernel
theorem dX2_next_68 : decode cX2_next 68 = .ok (.goto 4, 3) := by decide +kernel
theorem dX2_next_71 : decode cX2_next 71 = .ok (.iconst 0, 1) := by decide +kernel
theorem dX2_next_72 : decode cX2_next 72 = .ok (.istore 5, 2) := by decide +kernel
theorem dX2_next_74 : decode cX2_next 74 = .ok (.aload_n 0, 1) := by decide +kernel
theorem dX2_next_75 : decode cX2_next 75 = .ok (.iload 4, 2) := by decide +kernel
theorem dX2_next_77 : decode cX2_next 77 = .ok (.iload_n 1, 1) := by decide +kernel
theorem dX2_next_78 : decode cX2_next 78 = .ok (.invokevirtual 107, 3) := by decide +kernel
theorem dX2_next_81 : decode cX2_next 81 = .ok (.ifCond .eq 34, 3) := by decide +kernel
theorem dX2_next_84 : decode cX2_next 84 = .ok (.iload 5, 2) := by decide +kernel
theorem dX2_next_86 : decode cX2_next 86 = .ok (.ifCond .eq 29, 3) := by decide +kernel
theorem dX2_next_89 : decode cX2_next 89 = .ok (.iload_n 3, 1) := by decide +kernel
theorem dX2_next_90 : decode cX2_next 90 = .ok (.iconst (-1), 1) := by decide +kernel
theorem dX2_next_91 : decode cX2_next 91 = .ok (.if_icmp .eq 19, 3) := by decide +kernel
theorem dX2_next_94 : decode cX2_next 94 = .ok (.aload_n 0, 1) := by decide +kernel
theorem dX2_next_95 : decode cX2_next 95 = .ok (.getfield 25, 3) := by decide +kernel
theorem dX2_next_98 : decode cX2_next 98 = .ok (.iload 4, 2) := by decide +kernel
theorem dX2_next_100 : decode cX2_next 100 = .ok (.iaload, 1) := by decide +kernel
theorem dX2_next_101 : decode cX2_next 101 = .ok (.aload_n 0, 1) := by decide +kernel
theorem dX2_next_102 : decode cX2_next 102 = .ok (.getfield 25, 3) := by decide +kernel
theorem dX2_next_105 : decode cX2_next 105 = .ok (.iload_n 3, 1) := by decide +kernel
theorem dX2_next_106 : decode cX2_next 106 = .ok (.iaload, 1) := by decide +kernel
theorem dX2_next_107 : decode cX2_next 107 = .ok (.if_icmp .le 8, 3) := by decide +kernel
theorem dX2_next_110 : decode cX2_next 110 = .ok (.iload 4, 2) := by decide +kernel
theorem dX2_next_112 : decode cX2_next 112 = .ok (.goto 4, 3) := by decide +kernel
theorem dX2_next_115 : decode cX2_next 115 = .ok (.iload_n 3, 1) := by decide +kernel
theorem dX2_next_116 : decode cX2_next 116 = .ok (.istore_n 3, 1) := by decide +kernel
theorem dX2_next_117 : decode cX2_next 117 = .ok (.iinc 4 1, 3) := by decide +kernel
theorem dX2_next_120 : decode cX2_next 120 = .ok (.goto (-115), 3) := by decide +kernel
theorem dX2_next_123 : decode cX2_next 123 = .ok (.iload_n 3, 1) := by decide +kernel
theorem dX2_next_124 : decode cX2_next 124 = .ok (.ireturn, 1) := by decide +kernel
set_option maxRecDepth 20000 in
theorem ggX2_plans_X2_next : GoodIn wsX2_plans wsX2_next := goodIn_r _ [9, 10, 11, 12, 13, 14, 8, 15, 16, 17, 18, 19, 36, 37, 38, 39, 40, 41, 42, 43, 44, 45, 46, 47, 48, 49, 50, 51, 52, 53] (by decide +kernel) (by decide +kernel)
set_option maxRecDepth 20000 in
theorem gX2_plans_X2_next : GoodIn wsX2_plans (wsV RX2 110 RX2 yX2_next wsX2_next) := goodIn_app (goodIn_of _ (by decide +kernel)) ggX2_plans_X2_next
set_option maxRecDepth 20000 in
theorem ggX2_plans_X2_price : GoodIn wsX2_plans wsX2_price := goodIn_r _ [23, 24, 25, 26, 27, 8, 28, 11, 18, 19, 29, 36, 37, 38, 39, 40, 41, 42, 43, 44, 45, 46, 47, 48, 49, 50, 51, 52, 53] (by decide +kernel) (by decide +kernel)
set_option maxRecDepth 20000 in
theorem gX2_plans_X2_price : GoodIn wsX2_plans (wsV RX2 104 RX2 yX2_price wsX2_price) := goodIn_app (goodIn_of _ (by decide +kernel)) ggX2_plans_X2_price
set_option maxRecDepth 20000 in
theorem ggX2_plans_X2_leftOf : GoodIn wsX2_plans wsX2_leftOf := goodIn_r _ [33, 34, 10, 16, 4, 17, 18, 19, 35, 36, 37, 38, 39, 40, 41, 42, 43, 44, 45, 46, 47, 48, 49, 50, 51, 52, 53] (by decide +kernel) (by decide +kernel)
set_option maxRecDepth 20000 in
theorem gX2_plans_X2_leftOf : GoodIn wsX2_plans (wsV RX2 114 RX2 yX2_leftOf wsX2_leftOf) := goodIn_app (goodIn_of _ (by decide +kernel)) ggX2_plans_X2_leftOf
theorem dX2_plans_0 : decode cX2_plans 0 = .ok (.aload_n 0, 1) := by decide +kernel
theorem dX2_plans_1 : decode cX2_plans 1 = .ok (.getfield 37, 3) := by decide +kernel
theorem dX2_plans_4 : decode cX2_plans 4 = .ok (.iload_n 1, 1) := by decide +kernel
theorem dX2_plans_5 : decode cX2_plans 5 = .ok (.iaload, 1) := by decide +kernel
theorem dX2_plans_6 : decode cX2_plans 6 = .ok (.istore_n 2, 1) := by decide +kernel
theorem dX2_plans_7 : decode cX2_plans 7 = .ok (.iconst 0, 1) := by decide +kernel
theorem dX2_plans_8 : decode cX2_plans 8 = .ok (.istore_n 3, 1) := by decide +kernel
theorem dX2_plans_9 : decode cX2_plans 9 = .ok (.iload_n 3, 1) := by decide +kernel
theorem dX2_plans_10 : decode cX2_plans 10 = .ok (.bipush 8, 2) := by decide +kernel
theorem dX2_plans_12 : decode cX2_plans 12 = .ok (.if_icmp .ge 16, 3) := by decide +kernel
theorem dX2_plans_15 : decode cX2_plans 15 = .ok (.aload_n 0, 1) := by decide +kernel
theorem dX2_plans_16 : decode cX2_plans 16 = .ok (.getfield 50, 3) := by decide +kernel
theorem dX2_plans_19 : decode cX2_plans 19 = .ok (.iload_n 3, 1) := by decide +kernel
theorem dX2_plans_20 : decode cX2_plans 20 = .ok (.iconst 0, 1) := by decide +kernel
theorem dX2_plans_21 : decode cX2_plans 21 = .ok (.iastore, 1) := by decide +kernel
theorem dX2_plans_22 : decode cX2_plans 22 = .ok (.iinc 3 1, 3) := by decide +kernel
theorem dX2_plans_25 : decode cX2_plans 25 = .ok (.goto (-16), 3) := by decide +kernel
theorem dX2_plans_28 : decode cX2_plans 28 = .ok (.iconst 0, 1) := by decide +kernel
theorem dX2_plans_29 : decode cX2_plans 29 = .ok (.istore_n 3, 1) := by decide +kernel
theorem dX2_plans_30 : decode cX2_plans 30 = .ok (.iload_n 3, 1) := by decide +kernel
theorem dX2_plans_31 : decode cX2_plans 31 = .ok (.bipush 30, 2) := by decide +kernel
theorem dX2_plans_33 : decode cX2_plans 33 = .ok (.if_icmp .ge 16, 3) := by decide +kernel
theorem dX2_plans_36 : decode cX2_plans 36 = .ok (.aload_n 0, 1) := by decide +kernel
theorem dX2_plans_37 : decode cX2_plans 37 = .ok (.getfield 46, 3) := by decide +kernel
theorem dX2_plans_40 : decode cX2_plans 40 = .ok (.iload_n 3, 1) := by decide +kernel
theorem dX2_plans_41 : decode cX2_plans 41 = .ok (.iconst 0, 1) := by decide +kernel
theorem dX2_plans_42 : decode cX2_plans 42 = .ok (.bastore, 1) := by decide +kernel
theorem dX2_plans_43 : decode cX2_plans 43 = .ok (.iinc 3 1, 3) := by decide +kernel
theorem dX2_plans_46 : decode cX2_plans 46 = .ok (.goto (-16), 3) := by decide +kernel
theorem dX2_plans_49 : decode cX2_plans 49 = .ok (.aload_n 0, 1) := by decide +kernel
theorem dX2_plans_50 : decode cX2_plans 50 = .ok (.iload_n 1, 1) := by decide +kernel
theorem dX2_plans_51 : decode cX2_plans 51 = .ok (.iconst (-1), 1) := by decide +kernel
theorem dX2_plans_52 : decode cX2_plans 52 = .ok (.invokevirtual 110, 3) := by decide +kernel
theorem dX2_plans_55 : decode cX2_plans 55 = .ok (.istore_n 3, 1) := by decide +kernel
theorem dX2_plans_56 : decode cX2_plans 56 = .ok (.iload_n 3, 1) := by decide +kernel
theorem dX2_plans_57 : decode cX2_plans 57 = .ok (.iconst (-1), 1) := by decide +kernel
theorem dX2_plans_58 : decode cX2_plans 58 = .ok (.if_icmp .eq 78, 3) := by decide +kernel
theorem dX2_plans_61 : decode cX2_plans 61 = .ok (.aload_n 0, 1) := by decide +kernel
theorem dX2_plans_62 : decode cX2_plans 62 = .ok (.iload_n 3, 1) := by decide +kernel
theorem dX2_plans_63 : decode cX2_plans 63 = .ok (.invokevirtual 104, 3) := by decide +kernel
