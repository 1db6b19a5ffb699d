theorem dL_part_9 : decode cL_part 9 = .ok (.goto 16, 3) := by decide +kernel
theorem dL_part_12 : decode cL_part 12 = .ok (.sipush 317, 3) := by decide +kernel
theorem dL_part_15 : decode cL_part 15 = .ok (.iload_n 1, 1) := by decide +kernel
theorem dL_part_16 : decode cL_part 16 = .ok (.imul, 1) := by decide +kernel
theorem dL_part_17 : decode cL_part 17 = .ok (.sipush 193, 3) := by decide +kernel
theorem dL_part_20 : decode cL_part 20 = .ok (.iload_n 1, 1) := by decide +kernel
theorem dL_part_21 : decode cL_part 21 = .ok (.imul, 1) := by decide +kernel
theorem dL_part_22 : decode cL_part 22 = .ok (.iload_n 1, 1) := by decide +kernel
theorem dL_part_23 : decode cL_part 23 = .ok (.imul, 1) := by decide +kernel
theorem dL_part_24 : decode cL_part 24 = .ok (.iadd, 1) := by decide +kernel
theorem dL_part_25 : decode cL_part 25 = .ok (.istore_n 3, 1) := by decide +kernel
theorem dL_part_26 : decode cL_part 26 = .ok (.iload_n 3, 1) := by decide +kernel
theorem dL_part_27 : decode cL_part 27 = .ok (.ldc 7, 2) := by decide +kernel
theorem dL_part_29 : decode cL_part 29 = .ok (.iand, 1) := by decide +kernel
theorem dL_part_30 : decode cL_part 30 = .ok (.iload_n 2, 1) := by decide +kernel
theorem dL_part_31 : decode cL_part 31 = .ok (.irem, 1) := by decide +kernel
theorem dL_part_32 : decode cL_part 32 = .ok (.ireturn, 1) := by decide +kernel
set_option maxRecDepth 20000 in
theorem ggL_disputes_X1_dispute : GoodIn wsL_disputes wsX1_dispute := goodIn_ca (goodIn_ca (goodIn_r _ [5, 6, 7, 8, 9, 10, 4, 11, 12, 13, 14, 15, 16, 17, 18, 19, 20, 21, 22, 23, 24, 25, 26, 27, 28, 29, 30, 31, 32, 33, 34, 35, 36, 37, 38, 39, 40, 41, 42, 43, 44, 45, 46, 47, 48, 49, 50, 51, 52, 53, 54, 55, 56, 57, 58, 59, 60, 61, 62, 63] (by decide +kernel) (by decide +kernel)) (goodIn_sub (fun _ h => List.mem_cons_of_mem _ (List.mem_append_left _ (List.mem_append_right _ h))) (by decide +kernel))) (goodIn_sub (fun _ h => List.mem_cons_of_mem _ (List.mem_append_right _ h)) (by decide +kernel))
set_option maxRecDepth 20000 in
theorem gL_disputes_X1_dispute : GoodIn wsL_disputes (wsV RL 8 RX1 yX1_dispute wsX1_dispute) := goodIn_app (goodIn_of _ (by decide +kernel)) ggL_disputes_X1_dispute
theorem dL_disputes_0 : decode cL_disputes 0 = .ok (.aload_n 0, 1) := by decide +kernel
theorem dL_disputes_1 : decode cL_disputes 1 = .ok (.iload_n 1, 1) := by decide +kernel
theorem dL_disputes_2 : decode cL_disputes 2 = .ok (.invokevirtual 8, 3) := by decide +kernel
theorem dL_disputes_5 : decode cL_disputes 5 = .ok (.iconst 0, 1) := by decide +kernel
theorem dL_disputes_6 : decode cL_disputes 6 = .ok (.ireturn, 1) := by decide +kernel
set_option maxRecDepth 20000 in
theorem ggL_does_X1_setBudget : GoodIn wsL_does wsX1_setBudget := goodIn_ca (goodIn_ca (goodIn_r _ [8, 9, 10, 11, 12, 7, 13, 14, 15, 16, 17, 18, 19, 20, 212, 213, 214, 215, 216, 217, 218] (by decide +kernel) (by decide +kernel)) (goodIn_sub (fun _ h => List.mem_cons_of_mem _ (List.mem_append_left _ (List.mem_append_left _ (List.mem_append_right _ h)))) (by decide +kernel))) (goodIn_sub (fun _ h => List.mem_cons_of_mem _ (List.mem_append_left _ (List.mem_append_right _ h))) (by decide +kernel))
set_option maxRecDepth 20000 in
theorem gL_does_X1_setBudget : GoodIn wsL_does (wsV RL 14 RX1 yX1_setBudget wsX1_setBudget) := goodIn_app (goodIn_of _ (by decide +kernel)) ggL_does_X1_setBudget
set_option maxRecDepth 20000 in
theorem ggL_does_X1_setLimit : GoodIn wsL_does wsX1_setLimit := goodIn_ca (goodIn_ca (goodIn_r _ [24, 9, 25, 26, 27, 7, 28, 11, 12, 13, 14, 15, 29, 30, 31, 16, 17, 18, 19, 20, 212, 213, 214, 215, 216, 217, 218] (by decide +kernel) (by decide +kernel)) (goodIn_sub (fun _ h => List.mem_cons_of_mem _ (List.mem_append_left _ (List.mem_append_left _ (List.mem_append_right _ h)))) (by decide +kernel))) (goodIn_sub (fun _ h => List.mem_cons_of_mem _ (List.mem_append_left _ (List.mem_append_right _ h))) (by decide +kernel))
set_option maxRecDepth 20000 in
theorem gL_does_X1_setLimit : GoodIn wsL_does (wsV RL 18 RX1 yX1_setLimit wsX1_setLimit) := goodIn_app (goodIn_of _ (by decide +kernel)) ggL_does_X1_setLimit
set_option maxRecDepth 20000 in
theorem ggL_does_X1_bill : GoodIn wsL_does wsX1_bill := goodIn_ca (goodIn_ca (goodIn_ca (goodIn_r _ [35, 36, 37, 38, 39, 40, 41, 11, 12, 7, 13, 14, 15, 29, 30, 31, 16, 17, 18, 19, 20, 42, 43, 44, 45, 46, 47, 48, 49, 50, 51, 52, 53, 54, 55, 56, 57, 58, 59, 60, 61, 62, 63, 64, 65, 66, 67, 68, 69, 70, 71, 72, 73, 74, 75, 76, 77, 78, 79, 80, 81, 82, 83, 84, 85, 86, 87, 88, 89, 90, 91, 92, 93, 94, 95, 96, 97, 98, 99, 100, 101, 102, 103, 104, 105, 106, 107, 108, 109, 110, 111, 112, 113, 114, 115, 116, 117, 118, 119, 120, 121, 122, 212, 213, 214, 215, 216, 217, 218, 219, 220, 221, 222, 223, 224, 225, 226, 227, 228, 229, 230, 231] (by decide +kernel) (by decide +kernel)) (goodIn_sub (fun _ h => List.mem_cons_of_mem _ (List.mem_append_left _ (List.mem_append_left _ (List.mem_append_right _ h)))) (by decide +kernel))) (goodIn_sub (fun _ h => List.mem_cons_of_mem _ (List.mem_append_left _ (List.mem_append_right _ h))) (by decide +kernel))) (goodIn_sub (fun _ h => List.mem_cons_of_mem _ (List.mem_append_right _ h)) (by decide +kernel))
set_option maxRecDepth 20000 in
theorem gL_does_X1_bill : GoodIn wsL_does (wsV RL 22 RX1 yX1_bill wsX1_bill) := goodIn_app (goodIn_of _ (by decide +kernel)) ggL_does_X1_bill
set_option maxRecDepth 20000 in
theorem ggL_does_X1_approve : GoodIn wsL_does wsX1_approve := goodIn_ca (goodIn_ca (goodIn_r _ [126, 127, 128, 41, 129, 130, 131, 7, 132, 14, 15, 37, 133, 42, 43, 44, 45, 46, 47, 134, 135, 136, 137, 138, 139, 140, 141, 142, 143, 144, 145, 146, 147, 148, 149, 75, 48, 49, 50, 51, 52, 150, 151, 152, 153, 154, 155, 156, 157, 158, 159, 160, 161, 162, 117, 91, 118, 163, 164, 26, 27, 28, 11, 12, 13, 29, 30, 31, 219, 220, 221, 222, 223, 224, 225, 226, 227, 228, 212, 213, 214, 215, 216, 217, 218, 229, 230, 231] (by decide +kernel) (by decide +kernel)) (goodIn_sub (fun _ h => List.mem_cons_of_mem _ (List.mem_append_left _ (List.mem_append_left _ (List.mem_append_right _ h)))) (by decide +kernel))) (goodIn_sub (fun _ h => List.mem_cons_of_mem _ (List.mem_append_right _ h)) (by decide +kernel))
set_option maxRecDepth 20000 in
theorem gL_does_X1_approve : GoodIn wsL_does (wsV RL 26 RX1 yX1_approve wsX1_approve) := goodIn_app (goodIn_of _ (by decide +kernel)) ggL_does_X1_approve
set_option maxRecDepth 20000 in
theorem ggL_does_L_disputes : GoodIn wsL_does wsL_disputes := goodIn_ca (goodIn_ca (goodIn_r _ [168, 169, 170, 171, 7, 172, 127, 173, 129, 130, 131, 132, 14, 15, 37, 133, 42, 43, 44, 45, 46, 47, 134, 135, 136, 137, 138, 139, 140, 141, 142, 143, 144, 145, 146, 147, 148, 149, 75, 48, 49, 50, 51, 52, 219, 220, 221, 222, 223, 224, 225, 226, 227, 228, 212, 213, 214, 215, 216, 217, 218, 229, 230, 231] (by decide +kernel) (by decide +kernel)) (goodIn_sub (fun _ h => List.mem_cons_of_mem _ (List.mem_append_left _ (List.mem_append_left _ (List.mem_append_right _ h)))) (by decide +kernel))) (goodIn_sub (fun _ h => List.mem_cons_of_mem _ (List.mem_append_right _ h)) (by decide +kernel))
set_option maxRecDepth 20000 in
theorem gL_does_L_disputes : GoodIn wsL_does (va_wsS RL 30 yL_disputes wsL_disputes) := goodIn_app (goodIn_of _ (by decide +kernel)) ggL_does_L_disputes
set_option maxRecDepth 20000 in
theorem ggL_does_X1_note : GoodIn wsL_does wsX1_note := goodIn_ca (goodIn_ca (goodIn_r _ [177, 154, 178, 129, 130, 131, 7, 132, 14, 15, 37, 133, 42, 43, 44, 45, 46, 47, 134, 135, 136, 137, 138, 139, 140, 141, 142, 143, 144, 145, 146, 147, 148, 149, 75, 16, 17, 18, 19, 20, 179, 180, 181, 40, 182, 59, 183, 184, 185, 186, 36, 163, 161, 159, 160, 26, 27, 28, 11, 12, 13, 29, 30, 31, 219, 220, 221, 222, 223, 224, 225, 226, 227, 228, 212, 213, 214, 215, 216, 217, 218, 229, 230, 231] (by decide +kernel) (by decide +kernel)) (goodIn_sub (fun _ h => List.mem_cons_of_mem _ (List.mem_append_left _ (List.mem_append_left _ (List.mem_append_right _ h)))) (by decide +kernel))) (goodIn_sub (fun _ h => List.mem_cons_of_mem _ (List.mem_append_left _ (List.mem_append_right _ h))) (by decide +kernel))
set_option maxRecDepth 20000 in
theorem gL_does_X1_note : GoodIn wsL_does (wsV RL 36 RX1 yX1_note wsX1_note) := goodIn_app (goodIn_of _ (by decide +kernel)) ggL_does_X1_note
set_option maxRecDepth 20000 in
theorem ggL_does_X1_offer : GoodIn wsL_does wsX1_offer := goodIn_ca (goodIn_ca (goodIn_ca (goodIn_r _ [190, 127, 128, 41, 173, 129, 130, 131, 7, 132, 14, 15, 37, 133, 42, 43, 44, 45, 46, 47, 134, 135, 136, 137, 138, 139, 140, 141, 142, 143, 144, 145, 146, 147, 148, 149, 75, 16, 17, 18, 19, 20, 48, 49, 50, 51, 52, 191, 192, 193, 40, 194, 67, 195, 196, 197, 198, 60, 68, 199, 219, 220, 221, 222, 223, 224, 225, 226, 227, 228, 212, 213, 214, 215, 216, 217, 218, 229, 230, 231] (by decide +kernel) (by decide +kernel)) (goodIn_sub (fun _ h => List.mem_cons_of_mem _ (List.mem_append_left _ (List.mem_append_left _ (List.mem_append_right _ h)))) (by decide +kernel))) (goodIn_sub (fun _ h => List.mem_cons_of_mem _ (List.mem_append_left _ (List.mem_append_right _ h))) (by decide +kernel))) (goodIn_sub (fun _ h => List.mem_cons_of_mem _ (List.mem_append_right _ h)) (by decide +kernel))
set_option maxRecDepth 20000 in
theorem gL_does_X1_offer : GoodIn wsL_does (wsV RL 39 RX1 yX1_offer wsX1_offer) := goodIn_app (goodIn_of _ (by decide +kernel)) ggL_does_X1_offer
set_option maxRecDepth 20000 in
theorem ggL_does_X1_takeBack : GoodIn wsL_does wsX1_takeBack := goodIn_ca (goodIn_ca (goodIn_r _ [203, 173, 129, 130, 131, 7, 132, 14, 15, 37, 133, 42, 43, 44, 45, 46, 47, 134, 135, 136, 137, 138, 139, 140, 141, 142, 143, 144, 145, 146, 147, 148, 149, 75, 179, 180, 181, 40, 182, 59, 48, 49, 50, 51, 52, 219, 220, 221, 222, 223, 224, 225, 226, 227, 228, 212, 213, 214, 215, 216, 217, 218, 229, 230, 231] (by decide +kernel) (by decide +kernel)) (goodIn_sub (fun _ h => List.mem_cons_of_mem _ (List.mem_append_left _ (List.mem_append_left _ (List.mem_append_right _ h)))) (by decide +kernel))) (goodIn_sub (fun _ h => List.mem_cons_of_mem _ (List.mem_append_right _ h)) (by decide +kernel))
set_option maxRecDepth 20000 in
theorem gL_does_X1_takeBack : GoodIn wsL_does (wsV RL 42 RX1 yX1_takeBack wsX1_takeBack) := goodIn_app (goodIn_of _ (by decide +kernel)) ggL_does_X1_takeBack
set_option maxRecDepth 20000 in
theorem ggL_does_X1_pass : GoodIn wsL_does wsX1_pass := goodIn_ca (goodIn_ca (goodIn_r _ [207, 41, 16, 17, 7, 18, 19, 20, 208, 209, 210, 211, 37, 133, 127, 128, 42, 43, 44, 45, 46, 47, 134, 135, 136, 137, 138, 139, 140, 141, 142, 143, 144, 145, 146, 147, 148, 149, 75, 150, 151, 152, 153, 154, 155, 156, 157, 158, 159, 160, 161, 162, 117, 91, 118, 163, 164, 26, 27, 28, 11, 12, 13, 14, 15, 29, 30, 31, 212, 213, 214, 215, 216, 217, 218, 219, 220, 221, 222, 223, 224, 225, 226, 227, 228, 229, 230, 231] (by decide +kernel) (by decide +kernel)) (goodIn_sub (fun _ h => List.mem_cons_of_mem _ (List.mem_append_left _ (List.mem_append_right _ h))) (by decide +kernel))) (goodIn_sub (fun _ h => List.mem_cons_of_mem _ (List.mem_append_left _ (List.mem_append_left _ (List.mem_append_right _ h)))) (by decide +kernel))
set_option maxRecDepth 20000 in
theorem gL_does_X1_pass : GoodIn wsL_does (wsV RL 46 RX1 yX1_pass wsX1_pass) := goodIn_app (goodIn_of _ (by decide +kernel)) ggL_does_X1_pass
theorem dL_does_0 : decode cL_does 0 = .ok (.iload_n 1, 1) := by decide +kernel
theorem dL_does_1 : decode cL_does 1 = .ok (.ifCond .ne 12, 3) := by decide +kernel
theorem dL_does_4 : decode cL_does 4 = .ok (.aload_n 0, 1) := by decide +kernel
theorem dL_does_5 : decode cL_does 5 = .ok (.iload_n 2, 1) := by decide +kernel
theorem dL_does_6 : decode cL_does 6 = .ok (.iload_n 3, 1) := by decide +kernel
theorem dL_does_7 : decode cL_does 7 = .ok (.invokevirtual 14, 3) := by decide +kernel
theorem dL_does_10 : decode cL_does 10 = .ok (.goto 119, 3) := by decide +kernel
theorem dL_does_13 : decode cL_does 13 = .ok (.iload_n 1, 1) := by decide +kernel
theorem dL_does_14 : decode cL_does 14 = .ok (.iconst 1, 1) := by decide +kernel
theorem dL_does_15 : decode cL_does 15 = .ok (.if_icmp .ne 14, 3) := by decide +kernel
theorem dL_does_18 : decode cL_does 18 = .ok (.aload_n 0, 1) := by decide +kernel
theorem dL_does_19 : decode cL_does 19 = .ok (.iload_n 2, 1) := by decide +kernel
theorem dL_does_20 : decode cL_does 20 = .ok (.iload_n 3, 1) := by decide +kernel
theorem dL_does_21 : decode cL_does 21 = .ok (.iload 4, 2) := by decide +kernel
theorem dL_does_23 : decode cL_does 23 = .ok (.invokevirtual 18, 3) := by decide +kernel
theorem dL_does_26 : decode cL_does 26 = .ok (.goto 103, 3) := by decide +kernel
theorem dL_does_29 : decode cL_does 29 = .ok (.iload_n 1, 1) := by decide +kernel
theorem dL_does_30 : decode cL_does 30 = .ok (.iconst 2, 1) := by decide +kernel
theorem dL_does_31 : decode cL_does 31 = .ok (.if_icmp .ne 16, 3) := by decide +kernel
theorem dL_does_34 : decode cL_does 34 = .ok (.aload_n 0, 1) := by decide +kernel
theorem dL_does_35 : decode cL_does 35 = .ok (.iload_n 2, 1) := by decide +kernel
theorem dL_does_36 : decode cL_does 36 = .ok (.iload_n 3, 1) := by decide +kernel
theorem dL_does_37 : decode cL_does 37 = .ok (.iload 4, 2) := by decide +kernel
theorem dL_does_39 : decode cL_does 39 = .ok (.iload 5, 2) := by decide +kernel
theorem dL_does_41 : decode cL_does 41 = .ok (.invokevirtual 22, 3) := by decide +kernel
theorem dL_does_44 : decode cL_does 44 = .ok (.goto 85, 3) := by decide +kernel
theorem dL_does_47 : decode cL_does 47 = .ok (.iload_n 1, 1) := by decide +kernel
theorem dL_does_48 : decode cL_does 48 = .ok (.iconst 3, 1) := by decide +kernel
theorem dL_does_49 : decode cL_does 49 = .ok (.if_icmp .ne 19, 3) := by decide +kernel
theorem dL_does_52 : decode cL_does 52 = .ok (.aload_n 0, 1) := by decide +kernel
theorem dL_does_53 : decode cL_does 53 = .ok (.iload_n 2, 1) := by decide +kernel
theorem dL_does_54 : decode cL_does 54 = .ok (.invokevirtual 26, 3) := by decide +kernel
theorem dL_does_57 : decode cL_does 57 = .ok (.ifCond .eq 7, 3) := by decide +kernel
theorem dL_does_60 : decode cL_does 60 = .ok (.iconst 1, 1) := by decide +kernel
theorem dL_does_61 : decode cL_does 61 = .ok (.goto 68, 3) := by decide +kernel
theorem dL_does_64 : decode cL_does 64 = .ok (.iconst 0, 1) := by decide +kernel
theorem dL_does_65 : decode cL_does 65 = .ok (.goto 64, 3) := by decide +kernel
theorem dL_does_68 : decode cL_does 68 = .ok (.iload_n 1, 1) := by decide +kernel
theorem dL_does_69 : decode cL_does 69 = .ok (.iconst 4, 1) := by decide +kernel
theorem dL_does_70 : decode cL_does 70 = .ok (.if_icmp .ne 11, 3) := by decide +kernel
theorem dL_does_73 : decode cL_does 73 = .ok (.aload_n 0, 1) := by decide +kernel
theorem dL_does_74 : decode cL_does 74 = .ok (.iload_n 2, 1) := by decide +kernel
theorem dL_does_75 : decode cL_does 75 = .ok (.invokestatic 30, 3) := by decide +kernel
theorem dL_does_78 : decode cL_does 78 = .ok (.goto 51, 3) := by decide +kernel
theorem dL_does_81 : decode cL_does 81 = .ok (.iload_n 1, 1) := by decide +kernel
theorem dL_does_82 : decode cL_does 82 = .ok (.iconst 5, 1) := by decide +kernel
theorem dL_does_83 : decode cL_does 83 = .ok (.if_icmp .ne 12, 3) := by decide +kernel
theorem dL_does_86 : decode cL_does 86 = .ok (.aload_n 0, 1) := by decide +kernel
theorem dL_does_87 : decode cL_does 87 = .ok (.iload_n 2, 1) := by decide +kernel
theorem dL_does_88 : decode cL_does 88 = .ok (.iload_n 3, 1) := by decide +kernel
theorem dL_does_89 : decode cL_does 89 = .ok (.invokevirtual 36, 3) := by decide +kernel
theorem dL_does_92 : decode cL_does 92 = .ok (.goto 37, 3) := by decide +kernel
theorem dL_does_95 : decode cL_does 95 = .ok (.iload_n 1, 1) := by decide +kernel
theorem dL_does_96 : decode cL_does 96 = .ok (.bipush 6, 2) := by decide +kernel
theorem dL_does_98 : decode cL_does 98 = .ok (.if_icmp .ne 12, 3) := by decide +kernel
theorem dL_does_101 : decode cL_does 101 = .ok (.aload_n 0, 1) := by decide +kernel
theorem dL_does_102 : decode cL_does 102 = .ok (.iload_n 2, 1) := by decide +kernel
theorem dL_does_103 : decode cL_does 103 = .ok (.iload_n 3, 1) := by decide +kernel
theorem dL_does_104 : decode cL_does 104 = .ok (.invokevirtual 39, 3) := by decide +kernel
theorem dL_does_107 : decode cL_does 107 = .ok (.goto 22, 3) := by decide +kernel
theorem dL_does_110 : decode cL_does 110 = .ok (.iload_n 1, 1) := by decide +kernel
theorem dL_does_111 : decode cL_does 111 = .ok (.bipush 7, 2) := by decide +kernel
theorem dL_does_113 : decode cL_does 113 = .ok (.if_icmp .ne 11, 3) := by decide +kernel
theorem dL_does_116 : decode cL_does 116 = .ok (.aload_n 0, 1) := by decide +kernel
theorem dL_does_117 : decode cL_does 117 = .ok (.iload_n 2, 1) := by decide +kernel
theorem dL_does_118 : decode cL_does 118 = .ok (.invokevirtual 42, 3) := by decide +kernel
theorem dL_does_121 : decode cL_does 121 = .ok (.goto 8, 3) := by decide +kernel
theorem dL_does_124 : decode cL_does 124 = .ok (.aload_n 0, 1) := by decide +kernel
theorem dL_does_125 : decode cL_does 125 = .ok (.iload_n 2, 1) := by decide +kernel
theorem dL_does_126 : decode cL_does 126 = .ok (.invokevirtual 46, 3) := by decide +kernel
theorem dL_does_129 : decode cL_does 129 = .ok (.ireturn, 1) := by decide +kernel
theorem dL_does_130 : decode cL_does 130 = .ok (.astore 6, 2) := by decide +kernel
theorem dL_does_132 : decode cL_does 132 = .ok (.bipush (-30), 2) := by decide +kernel
theorem dL_does_134 : decode cL_does 134 = .ok (.ireturn, 1) := by decide +kernel
theorem dL_does_135 : decode cL_does 135 = .ok (.astore 6, 2) := by decide +kernel
theorem dL_does_137 : decode cL_does 137 = .ok (.bipush (-20), 2) := by decide +kernel
theorem dL_does_139 : decode cL_does 139 = .ok (.ireturn, 1) := by decide +kernel
theorem dL_does_140 : decode cL_does 140 = .ok (.astore 6, 2) := by decide +kernel
theorem dL_does_142 : decode cL_does 142 = .ok (.bipush (-10), 2) := by decide +kernel
theorem dL_does_144 : decode cL_does 144 = .ok (.ireturn, 1) := by decide +kernel
set_option maxRecDepth 20000 in
theorem ggL_asks_X1_state : GoodIn wsL_asks wsX1_state := goodIn_ca (goodIn_r _ [9, 10, 11, 12, 13, 8, 14, 15, 16, 17, 18, 19, 20, 21, 22, 23, 24, 25, 26, 27, 28, 29, 30, 31, 32, 33, 34, 35, 36, 37, 38, 39, 40, 41, 213, 214, 215, 216, 217, 218, 219, 220, 221, 222, 223, 224, 225, 226, 227, 228, 229, 230, 231, 232] (by decide +kernel) (by decide +kernel)) (goodIn_sub (fun _ h => List.mem_cons_of_mem _ (List.mem_append_left _ (List.mem_append_right _ h))) (by decide +kernel))
set_option maxRecDepth 20000 in
theorem gL_asks_X1_state : GoodIn wsL_asks (wsV RL 55 RX1 yX1_state wsX1_state) := goodIn_app (goodIn_of _ (by decide +kernel)) ggL_asks_X1_state
set_option maxRecDepth 20000 in
theorem ggL_asks_X1_amount : GoodIn wsL_asks wsX1_amount := goodIn_ca (goodIn_r _ [45, 46, 11, 12, 13, 8, 14, 15, 16, 17, 18, 19, 20, 21, 22, 23, 24, 25, 26, 27, 28, 29, 30, 31, 32, 33, 34, 35, 36, 37, 38, 39, 40, 41, 213, 214, 215, 216, 217, 218, 219, 220, 221, 222, 223, 224, 225, 226, 227, 228, 229, 230, 231, 232] (by decide +kernel) (by decide +kernel)) (goodIn_sub (fun _ h => List.mem_cons_of_mem _ (List.mem_append_left _ (List.mem_append_right _ h))) (by decide +kernel))
set_option maxRecDepth 20000 in
theorem gL_asks_X1_amount : GoodIn wsL_asks (wsV RL 58 RX1 yX1_amount wsX1_amount) := goodIn_app (goodIn_of _ (by decide +kernel)) ggL_asks_X1_amount
set_option maxRecDepth 20000 in
theorem ggL_asks_X1_paid : GoodIn wsL_asks wsX1_paid := goodIn_ca (goodIn_r _ [50, 51, 11, 12, 13, 8, 14, 15, 16, 17, 18, 19, 20, 21, 22, 23, 24, 25, 26, 27, 28, 29, 30, 31, 32, 33, 34, 35, 36, 37, 38, 39, 40, 41, 213, 214, 215, 216, 217, 218, 219, 220, 221, 222, 223, 224, 225, 226, 227, 228, 229, 230, 231, 232] (by decide +kernel) (by decide +kernel)) (goodIn_sub (fun _ h => List.mem_cons_of_mem _ (List.mem_append_left _ (List.mem_append_right _ h))) (by decide +kernel))
set_option maxRecDepth 20000 in
theorem gL_asks_X1_paid : GoodIn wsL_asks (wsV RL 61 RX1 yX1_paid wsX1_paid) := goodIn_app (goodIn_of _ (by decide +kernel)) ggL_asks_X1_paid
set_option maxRecDepth 20000 in
theorem ggL_asks_X1_heldBack : GoodIn wsL_asks wsX1_heldBack := goodIn_ca (goodIn_r _ [55, 56, 11, 12, 13, 8, 14, 15, 16, 17, 18, 19, 20, 21, 22, 23, 24, 25, 26, 27, 28, 29, 30, 31, 32, 33, 34, 35, 36, 37, 38, 39, 40, 41, 213, 214, 215, 216, 217, 218, 219, 220, 221, 222, 223, 224, 225, 226, 227, 228, 229, 230, 231, 232] (by decide +kernel) (by decide +kernel)) (goodIn_sub (fun _ h => List.mem_cons_of_mem _ (List.mem_append_left _ (List.mem_append_right _ h))) (by decide +kernel))
set_option maxRecDepth 20000 in
theorem gL_asks_X1_heldBack : GoodIn wsL_asks (wsV RL 64 RX1 yX1_heldBack wsX1_heldBack) := goodIn_app (goodIn_of _ (by decide +kernel)) ggL_asks_X1_heldBack
set_option maxRecDepth 20000 in
theorem ggL_asks_X1_plan : GoodIn wsL_asks wsX1_plan := goodIn_ca (goodIn_r _ [60, 61, 62, 8, 63, 15, 16, 64, 65, 66, 67, 68, 17, 18, 69, 70, 71, 72, 73, 74, 22, 75, 76, 77, 41, 24, 19, 20, 21, 23, 25, 26, 27, 28, 29, 30, 31, 32, 33, 34, 35, 36, 37, 38, 39, 40, 78, 79, 80, 81, 82, 83, 84, 85, 86, 87, 88, 89, 90, 91, 92, 93, 94, 95, 96, 97, 98, 99, 100, 101, 102, 103, 104, 105, 106, 107, 108, 109, 110, 111, 112, 113, 114, 115, 116, 117, 118, 119, 120, 121, 122, 123, 124, 125, 126, 127, 128, 129, 130, 131, 132, 133, 134, 135, 136, 137, 138, 139, 140, 141, 142, 143, 144, 145, 146, 147, 148, 149, 150, 151, 152, 153, 154, 155, 156, 157, 158, 159, 160, 161, 162, 163, 164, 165, 166, 167, 168, 10, 169, 51, 170, 171, 172, 173, 174, 175, 176, 177, 178, 179, 223, 224, 225, 226, 227, 228, 229, 213, 214, 215, 216, 217, 218, 219, 220, 221, 222, 230, 231, 232] (by decide +kernel) (by decide +kernel)) (goodIn_sub (fun _ h => List.mem_cons_of_mem _ (List.mem_append_left _ (List.mem_append_right _ h))) (by decide +kernel))
set_option maxRecDepth 20000 in
theorem gL_asks_X1_plan : GoodIn wsL_asks (wsV RL 67 RX1 yX1_plan wsX1_plan) := goodIn_app (goodIn_of _ (by decide +kernel)) ggL_asks_X1_plan
set_option maxRecDepth 20000 in
theorem ggL_asks_X1_clear : GoodIn wsL_asks wsX1_clear := goodIn_ca (goodIn_r _ [183, 68, 18, 149, 70, 61, 62, 8, 63, 15, 16, 64, 65, 66, 67, 17, 69, 71, 72, 73, 74, 22, 75, 76, 77, 41, 24, 19, 20, 21, 23, 25, 26, 27, 28, 29, 30, 31, 32, 33, 34, 35, 36, 37, 38, 39, 40, 78, 79, 80, 81, 82, 83, 84, 85, 86, 87, 88, 89, 90, 91, 92, 93, 94, 95, 96, 97, 98, 99, 100, 101, 102, 103, 104, 105, 106, 107, 108, 109, 110, 111, 112, 113, 114, 115, 116, 117, 118, 119, 120, 121, 122, 123, 124, 125, 126, 127, 128, 129, 130, 131, 132, 133, 134, 135, 136, 137, 138, 139, 140, 141, 142, 143, 144, 145, 146, 147, 148, 150, 151, 152, 153, 154, 155, 156, 157, 158, 159, 160, 161, 162, 163, 164, 165, 166, 167, 168, 10, 169, 51, 170, 171, 172, 173, 174, 175, 176, 177, 178, 179, 184, 185, 186, 187, 188, 189, 190, 191, 192, 193, 194, 56, 223, 224, 225, 226, 227, 228, 229, 213, 214, 215, 216, 217, 218, 219, 220, 221, 222, 230, 231, 232] (by decide +kernel) (by decide +kernel)) (goodIn_sub (fun _ h => List.mem_cons_of_mem _ (List.mem_append_left _ (List.mem_append_right _ h))) (by decide +kernel))
set_option maxRecDepth 20000 in
theorem gL_asks_X1_clear : GoodIn wsL_asks (wsV RL 70 RX1 yX1_clear wsX1_clear) := goodIn_app (goodIn_of _ (by decide +kernel)) ggL_asks_X1_clear
set_option maxRecDepth 20000 in
theorem ggL_asks_X1_most : GoodIn wsL_asks wsX1_most := goodIn_ca (goodIn_ca (goodIn_r _ [198, 68, 18, 70, 146, 147, 61, 62, 8, 63, 15, 16, 64, 65, 66, 67, 17, 69, 71, 72, 73, 74, 22, 75, 76, 77, 41, 24, 19, 20, 21, 23, 25, 26, 27, 28, 29, 30, 31, 32, 33, 34, 35, 36, 37, 38, 39, 40, 78, 79, 80, 81, 82, 83, 84, 85, 86, 87, 88, 89, 90, 91, 92, 93, 94, 95, 96, 97, 98, 99, 100, 101, 102, 103, 104, 105, 106, 107, 108, 109, 110, 111, 112, 113, 114, 115, 116, 117, 118, 119, 120, 121, 122, 123, 124, 125, 126, 127, 128, 129, 130, 131, 132, 133, 134, 135, 136, 137, 138, 139, 140, 141, 199, 200, 201, 202, 203, 150, 151, 152, 153, 154, 155, 156, 157, 158, 159, 160, 161, 162, 163, 164, 165, 166, 167, 168, 148, 10, 169, 51, 184, 176, 177, 178, 174, 179, 204, 205, 206, 207, 170, 171, 172, 173, 175, 223, 224, 225, 226, 227, 228, 229, 213, 214, 215, 216, 217, 218, 219, 220, 221, 222, 230, 231, 232] (by decide +kernel) (by decide +kernel)) (goodIn_sub (fun _ h => List.mem_cons_of_mem _ (List.mem_append_left _ (List.mem_append_right _ h))) (by decide +kernel))) (goodIn_sub (fun _ h => List.mem_cons_of_mem _ (List.mem_append_right _ h)) (by decide +kernel))
set_option maxRecDepth 20000 in
theorem gL_asks_X1_most : GoodIn wsL_asks (wsV RL 73 RX1 yX1_most wsX1_most) := goodIn_app (goodIn_of _ (by decide +kernel)) ggL_asks_X1_most
set_option maxRecDepth 20000 in
theorem ggL_asks_X1_left : GoodIn wsL_asks wsX1_left := goodIn_ca (goodIn_r _ [157, 158, 159, 160, 8, 161, 61, 62, 63, 15, 16, 162, 163, 164, 165, 166, 167, 168, 17, 18, 69, 148, 10, 169, 70, 51, 19, 20, 21, 22, 23, 24, 25, 26, 27, 28, 29, 30, 31, 32, 33, 34, 35, 36, 37, 38, 39, 40, 41, 223, 224, 225, 226, 227, 228, 229, 213, 214, 215, 216, 217, 218, 219, 220, 221, 222, 230, 231, 232] (by decide +kernel) (by decide +kernel)) (goodIn_sub (fun _ h => List.mem_cons_of_mem _ (List.mem_append_left _ (List.mem_append_right _ h))) (by decide +kernel))
set_option maxRecDepth 20000 in
theorem gL_asks_X1_left : GoodIn wsL_asks (wsV RL 76 RX1 yX1_left wsX1_left) := goodIn_app (goodIn_of _ (by decide +kernel)) ggL_asks_X1_left
set_option maxRecDepth 20000 in
theorem ggL_asks_X1_claim : GoodIn wsL_asks wsX1_claim := goodIn_ca (goodIn_r _ [212, 193, 159, 160, 8, 161, 61, 62, 63, 15, 16, 162, 163, 164, 223, 224, 225, 226, 227, 228, 229] (by decide +kernel) (by decide +kernel)) (goodIn_sub (fun _ h => List.mem_cons_of_mem _ (List.mem_append_left _ (List.mem_append_right _ h))) (by decide +kernel))
set_option maxRecDepth 20000 in
theorem gL_asks_X1_claim : GoodIn wsL_asks (wsV RL 79 RX1 yX1_claim wsX1_claim) := goodIn_app (goodIn_of _ (by decide +kernel)) ggL_asks_X1_claim
theorem dL_asks_0 : decode cL_asks 0 = .ok (.iload_n 1, 1) := by decide +kernel
theorem dL_asks_1 : decode cL_asks 1 = .ok (.ifCond .ne 11, 3) := by decide +kernel
theorem dL_asks_4 : decode cL_asks 4 = .ok (.aload_n 0, 1) := by decide +kernel
theorem dL_asks_5 : decode cL_asks 5 = .ok (.iload_n 2, 1) := by decide +kernel
theorem dL_asks_6 : decode cL_asks 6 = .ok (.invokevirtual 55, 3) := by decide +kernel
theorem dL_asks_9 : decode cL_asks 9 = .ok (.goto 103, 3) := by decide +kernel
theorem dL_asks_12 : decode cL_asks 12 = .ok (.iload_n 1, 1) := by decide +kernel
theorem dL_asks_13 : decode cL_asks 13 = .ok (.iconst 1, 1) := by decide +kernel
theorem dL_asks_14 : decode cL_asks 14 = .ok (.if_icmp .ne 11, 3) := by decide +kernel
theorem dL_asks_17 : decode cL_asks 17 = .ok (.aload_n 0, 1) := by decide +kernel
theorem dL_asks_18 : decode cL_asks 18 = .ok (.iload_n 2, 1) := by decide +kernel
theorem dL_asks_19 : decode cL_asks 19 = .ok (.invokevirtual 58, 3) := by decide +kernel
theorem dL_asks_22 : decode cL_asks 22 = .ok (.goto 90, 3) := by decide +kernel
theorem dL_asks_25 : decode cL_asks 25 = .ok (.iload_n 1, 1) := by decide +kernel
theorem dL_asks_26 : decode cL_asks 26 = .ok (.iconst 2, 1) := by decide +kernel
theorem dL_asks_27 : decode cL_asks 27 = .ok (.if_icmp .ne 11, 3) := by decide +kernel
theorem dL_asks_30 : decode cL_asks 30 = .ok (.aload_n 0, 1) := by decide +kernel
theorem dL_asks_31 : decode cL_asks 31 = .ok (.iload_n 2, 1) := by decide +kernel
theorem dL_asks_32 : decode cL_asks 32 = .ok (.invokevirtual 61, 3) := by decide +kernel
theorem dL_asks_35 : decode cL_asks 35 = .ok (.goto 77, 3) := by decide +kernel
theorem dL_asks_38 : decode cL_asks 38 = .ok (.iload_n 1, 1) := by decide +kernel
theorem dL_asks_39 : decode cL_asks 39 = .ok (.iconst 3, 1) := by decide +kernel
theorem dL_asks_40 : decode cL_asks 40 = .ok (.if_icmp .ne 11, 3) := by decide +kernel
theorem dL_asks_43 : decode cL_asks 43 = .ok (.aload_n 0, 1) := by decide +kernel
theorem dL_asks_44 : decode cL_asks 44 = .ok (.iload_n 2, 1) := by decide +kernel
theorem dL_asks_45 : decode cL_asks 45 = .ok (.invokevirtual 64, 3) := by decide +kernel
theorem dL_asks_48 : decode cL_asks 48 = .ok (.goto 64, 3) := by decide +kernel
theorem dL_asks_51 : decode cL_asks 51 = .ok (.iload_n 1, 1) := by decide +kernel
theorem dL_asks_52 : decode cL_asks 52 = .ok (.iconst 4, 1) := by decide +kernel
theorem dL_asks_53 : decode cL_asks 53 = .ok (.if_icmp .ne 11, 3) := by decide +kernel
theorem dL_asks_56 : decode cL_asks 56 = .ok (.aload_n 0, 1) := by decide +kernel
theorem dL_asks_57 : decode cL_asks 57 = .ok (.iload_n 2, 1) := by decide +kernel
theorem dL_asks_58 : decode cL_asks 58 = .ok (.invokevirtual 67, 3) := by decide +kernel
theorem dL_asks_61 : decode cL_asks 61 = .ok (.goto 51, 3) := by decide +kernel
theorem dL_asks_64 : decode cL_asks 64 = .ok (.iload_n 1, 1) := by decide +kernel
theorem dL_asks_65 : decode cL_asks 65 = .ok (.iconst 5, 1) := by decide +kernel
theorem dL_asks_66 : decode cL_asks 66 = .ok (.if_icmp .ne 11, 3) := by decide +kernel
theorem dL_asks_69 : decode cL_asks 69 = .ok (.aload_n 0, 1) := by decide +kernel
theorem dL_asks_70 : decode cL_asks 70 = .ok (.iload_n 2, 1) := by decide +kernel
theorem dL_asks_71 : decode cL_asks 71 = .ok (.invokevirtual 70, 3) := by decide +kernel
theorem dL_asks_74 : decode cL_asks 74 = .ok (.goto 38, 3) := by decide +kernel
theorem dL_asks_77 : decode cL_asks 77 = .ok (.iload_n 1, 1) := by decide +kernel
theorem dL_asks_78 : decode cL_asks 78 = .ok (.bipush 6, 2) := by decide +kernel
theorem dL_asks_80 : decode cL_asks 80 = .ok (.if_icmp .ne 11, 3) := by decide +kernel
theorem dL_asks_83 : decode cL_asks 83 = .ok (.aload_n 0, 1) := by decide +kernel
theorem dL_asks_84 : decode cL_asks 84 = .ok (.iload_n 2, 1) := by decide +kernel
theorem dL_asks_85 : decode cL_asks 85 = .ok (.invokevirtual 73, 3) := by decide +kernel
theorem dL_asks_88 : decode cL_asks 88 = .ok (.goto 24, 3) := by decide +kernel
theorem dL_asks_91 : decode cL_asks 91 = .ok (.iload_n 1, 1) := by decide +kernel
theorem dL_asks_92 : decode cL_asks 92 = .ok (.bipush 7, 2) := by decide +kernel
theorem dL_asks_94 : decode cL_asks 94 = .ok (.if_icmp .ne 12, 3) := by decide +kernel
theorem dL_asks_97 : decode cL_asks 97 = .ok (.aload_n 0, 1) := by decide +kernel
theorem dL_asks_98 : decode cL_asks 98 = .ok (.iload_n 2, 1) := by decide +kernel
theorem dL_asks_99 : decode cL_asks 99 = .ok (.iload_n 3, 1) := by decide +kernel
theorem dL_asks_100 : decode cL_asks 100 = .ok (.invokevirtual 76, 3) := by decide +kernel
theorem dL_asks_103 : decode cL_asks 103 = .ok (.goto 9, 3) := by decide +kernel
theorem dL_asks_106 : decode cL_asks 106 = .ok (.aload_n 0, 1) := by decide +kernel
theorem dL_asks_107 : decode cL_asks 107 = .ok (.iload_n 2, 1) := by decide +kernel
theorem dL_asks_108 : decode cL_asks 108 = .ok (.iload_n 3, 1) := by decide +kernel
theorem dL_asks_109 : decode cL_asks 109 = .ok (.invokevirtual 79, 3) := by decide +kernel
theorem dL_asks_112 : decode cL_asks 112 = .ok (.ireturn, 1) := by decide +kernel
theorem dL_asks_113 : decode cL_asks 113 = .ok (.astore 4, 2) := by decide +kernel
theorem dL_asks_115 : decode cL_asks 115 = .ok (.ldc 82, 2) := by decide +kernel
theorem dL_asks_117 : decode cL_asks 117 = .ok (.ireturn, 1) := by decide +kernel
theorem dL_asks_118 : decode cL_asks 118 = .ok (.astore 4, 2) := by decide +kernel
theorem dL_asks_120 : decode cL_asks 120 = .ok (.ldc 83, 2) := by decide +kernel
theorem dL_asks_122 : decode cL_asks 122 = .ok (.ireturn, 1) := by decide +kernel
set_option maxRecDepth 20000 in
theorem ggL_average_X1_averageDiscount : GoodIn wsL_average wsX1_averageDiscount := goodIn_ca (goodIn_ca (goodIn_r _ [9, 10, 11, 12, 13, 14, 15, 16, 17, 8, 18, 19, 20, 21, 22, 23, 24, 25, 26, 27, 28, 29, 30, 31, 32, 33, 34, 35, 36, 37, 38, 39, 40, 41, 42, 43, 44, 45, 46, 47, 48, 49, 50, 51, 52, 53, 54, 55, 56, 57, 58, 59, 60, 61, 62, 63, 64, 65, 66, 67, 68] (by decide +kernel) (by decide +kernel)) (goodIn_sub (fun _ h => List.mem_cons_of_mem _ (List.mem_append_left _ (List.mem_append_right _ h))) (by decide +kernel))) (goodIn_sub (fun _ h => List.mem_cons_of_mem _ (List.mem_append_right _ h)) (by decide +kernel))
set_option maxRecDepth 20000 in
theorem gL_average_X1_averageDiscount : GoodIn wsL_average (wsV RL 84 RX1 yX1_averageDiscount wsX1_averageDiscount) := goodIn_app (goodIn_of _ (by decide +kernel)) ggL_average_X1_averageDiscount
theorem dL_average_0 : decode cL_average 0 = .ok (.aload_n 0, 1) := by decide +kernel
theorem dL_average_1 : decode cL_average 1 = .ok (.iload_n 1, 1) := by decide +kernel
theorem dL_average_2 : decode cL_average 2 = .ok (.invokevirtual 84, 3) := by decide +kernel
theorem dL_average_5 : decode cL_average 5 = .ok (.freturn, 1) := by decide +kernel
theorem dL_average_6 : decode cL_average 6 = .ok (.astore_n 2, 1) := by decide +kernel
theorem dL_average_7 : decode cL_average 7 = .ok (.ldc 88, 2) := by decide +kernel
theorem dL_average_9 : decode cL_average 9 = .ok (.freturn, 1) := by decide +kernel
theorem dL_average_10 : decode cL_average 10 = .ok (.astore_n 2, 1) := by decide +kernel
theorem dL_average_11 : decode cL_average 11 = .ok (.ldc 89, 2) := by decide +kernel
theorem dL_average_13 : decode cL_average 13 = .ok (.freturn, 1) := by decide +kernel
set_option maxRecDepth 20000 in
theorem ggL_areBills_X1_today : GoodIn wsL_areBills wsX1_today := goodIn_r _ [7, 8, 222, 223, 224, 225, 226, 227, 228] (by decide +kernel) (by decide +kernel)
set_option maxRecDepth 20000 in
theorem gL_areBills_X1_today : GoodIn wsL_areBills (wsV RL 90 RX1 yX1_today wsX1_today) := goodIn_app (goodIn_of _ (by decide +kernel)) ggL_areBills_X1_today
set_option maxRecDepth 20000 in
theorem ggL_areBills_L_asks : GoodIn wsL_areBills wsL_asks := goodIn_ca (goodIn_ca (goodIn_r _ [12, 13, 14, 1, 15, 16, 17, 18, 6, 19, 20, 21, 22, 23, 24, 25, 26, 27, 28, 29, 30, 31, 32, 33, 34, 35, 36, 37, 38, 39, 40, 41, 42, 43, 44, 45, 46, 47, 48, 49, 50, 51, 52, 53, 54, 55, 56, 57, 58, 59, 60, 61, 62, 63, 64, 65, 66, 67, 68, 69, 70, 71, 72, 73, 74, 75, 76, 77, 78, 79, 8, 80, 81, 82, 83, 84, 85, 86, 87, 88, 89, 90, 91, 92, 93, 94, 95, 96, 97, 98, 99, 100, 101, 102, 103, 104, 105, 106, 107, 108, 109, 110, 111, 112, 113, 114, 115, 116, 117, 118, 119, 120, 121, 122, 123, 124, 125, 126, 127, 128, 129, 130, 131, 132, 133, 134, 135, 136, 137, 138, 139, 140, 141, 142, 143, 144, 145, 146, 147, 148, 149, 150, 151, 152, 153, 154, 155, 156, 157, 158, 159, 160, 161, 162, 163, 164, 165, 166, 167, 168, 169, 170, 171, 172, 173, 174, 175, 176, 177, 178, 179, 180, 181, 182, 183, 184, 185, 186, 187, 188, 189, 190, 191, 192, 193, 194, 195, 196, 197, 198, 199, 200, 201, 202, 203, 204, 205, 206, 207, 208, 209, 210, 211, 212, 213, 214, 215, 216, 217, 218, 219, 220, 221, 229, 230, 231, 232, 233, 234, 235, 236, 237, 238, 222, 223, 224, 225, 226, 227, 228, 239, 240, 241] (by decide +kernel) (by decide +kernel)) (goodIn_sub (fun _ h => List.mem_cons_of_mem _ (List.mem_append_left _ (List.mem_append_right _ h))) (by decide +kernel))) (goodIn_sub (fun _ h => List.mem_cons_of_mem _ (List.mem_append_right _ h)) (by decide +kernel))
set_option maxRecDepth 20000 in
theorem gL_areBills_L_asks : GoodIn wsL_areBills (va_wsS RL 94 yL_asks wsL_asks) := goodIn_app (goodIn_of _ (by decide +kernel)) ggL_areBills_L_asks
set_option maxRecDepth 20000 in
theorem ggL_areBills_X1_state : GoodIn wsL_areBills wsX1_state := goodIn_ca (goodIn_r _ [19, 20, 21, 22, 23, 6, 24, 25, 26, 27, 28, 29, 30, 31, 32, 33, 34, 35, 36, 37, 38, 39, 40, 41, 42, 43, 44, 45, 46, 47, 48, 49, 50, 51, 229, 230, 231, 232, 233, 234, 235, 236, 237, 238, 222, 223, 224, 225, 226, 227, 228, 239, 240, 241] (by decide +kernel) (by decide +kernel)) (goodIn_sub (fun _ h => List.mem_cons_of_mem _ (List.mem_append_left _ (List.mem_append_right _ h))) (by decide +kernel))
set_option maxRecDepth 20000 in
theorem gL_areBills_X1_state : GoodIn wsL_areBills (wsV RL 55 RX1 yX1_state wsX1_state) := goodIn_app (goodIn_of _ (by decide +kernel)) ggL_areBills_X1_state
set_option maxRecDepth 20000 in
theorem ggL_areBills_X1_amount : GoodIn wsL_areBills wsX1_amount := goodIn_ca (goodIn_r _ [55, 56, 21, 22, 23, 6, 24, 25, 26, 27, 28, 29, 30, 31, 32, 33, 34, 35, 36, 37, 38, 39, 40, 41, 42, 43, 44, 45, 46, 47, 48, 49, 50, 51, 229, 230, 231, 232, 233, 234, 235, 236, 237, 238, 222, 223, 224, 225, 226, 227, 228, 239, 240, 241] (by decide +kernel) (by decide +kernel)) (goodIn_sub (fun _ h => List.mem_cons_of_mem _ (List.mem_append_left _ (List.mem_append_right _ h))) (by decide +kernel))
set_option maxRecDepth 20000 in
theorem gL_areBills_X1_amount : GoodIn wsL_areBills (wsV RL 58 RX1 yX1_amount wsX1_amount) := goodIn_app (goodIn_of _ (by decide +kernel)) ggL_areBills_X1_amount
set_option maxRecDepth 20000 in
theorem ggL_areBills_X1_paid : GoodIn wsL_areBills wsX1_paid := goodIn_ca (goodIn_r _ [60, 61, 21, 22, 23, 6, 24, 25, 26, 27, 28, 29, 30, 31, 32, 33, 34, 35, 36, 37, 38, 39, 40, 41, 42, 43, 44, 45, 46, 47, 48, 49, 50, 51, 229, 230, 231, 232, 233, 234, 235, 236, 237, 238, 222, 223, 224, 225, 226, 227, 228, 239, 240, 241] (by decide +kernel) (by decide +kernel)) (goodIn_sub (fun _ h => List.mem_cons_of_mem _ (List.mem_append_left _ (List.mem_append_right _ h))) (by decide +kernel))
set_option maxRecDepth 20000 in
theorem gL_areBills_X1_paid : GoodIn wsL_areBills (wsV RL 61 RX1 yX1_paid wsX1_paid) := goodIn_app (goodIn_of _ (by decide +kernel)) ggL_areBills_X1_paid
set_option maxRecDepth 20000 in
theorem ggL_areBills_X1_heldBack : GoodIn wsL_areBills wsX1_heldBack := goodIn_ca (goodIn_r _ [65, 66, 21, 22, 23, 6, 24, 25, 26, 27, 28, 29, 30, 31, 32, 33, 34, 35, 36, 37, 38, 39, 40, 41, 42, 43, 44, 45, 46, 47, 48, 49, 50, 51, 229, 230, 231, 232, 233, 234, 235, 236, 237, 238, 222, 223, 224, 225, 226, 227, 228, 239, 240, 241] (by decide +kernel) (by decide +kernel)) (goodIn_sub (fun _ h => List.mem_cons_of_mem _ (List.mem_append_left _ (List.mem_append_right _ h))) (by decide +kernel))
set_option maxRecDepth 20000 in
theorem gL_areBills_X1_heldBack : GoodIn wsL_areBills (wsV RL 64 RX1 yX1_heldBack wsX1_heldBack) := goodIn_app (goodIn_of _ (by decide +kernel)) ggL_areBills_X1_heldBack
theorem dL_areBills_0 : decode cL_areBills 0 = .ok (.aload_n 0, 1) := by decide +kernel
theorem dL_areBills_1 : decode cL_areBills 1 = .ok (.invokevirtual 90, 3) := by decide +kernel
theorem dL_areBills_4 : decode cL_areBills 4 = .ok (.aload 4, 2) := by decide +kernel
theorem dL_areBills_6 : decode cL_areBills 6 = .ok (.iconst 1, 1) := by decide +kernel
theorem dL_areBills_7 : decode cL_areBills 7 = .ok (.iaload, 1) := by decide +kernel
theorem dL_areBills_8 : decode cL_areBills 8 = .ok (.if_icmp .ne 64, 3) := by decide +kernel
theorem dL_areBills_11 : decode cL_areBills 11 = .ok (.aload_n 0, 1) := by decide +kernel
theorem dL_areBills_12 : decode cL_areBills 12 = .ok (.iconst 0, 1) := by decide +kernel
theorem dL_areBills_13 : decode cL_areBills 13 = .ok (.aload 4, 2) := by decide +kernel
theorem dL_areBills_15 : decode cL_areBills 15 = .ok (.iconst 0, 1) := by decide +kernel
theorem dL_areBills_16 : decode cL_areBills 16 = .ok (.iaload, 1) := by decide +kernel
theorem dL_areBills_17 : decode cL_areBills 17 = .ok (.iconst 0, 1) := by decide +kernel
theorem dL_areBills_18 : decode cL_areBills 18 = .ok (.invokestatic 94, 3) := by decide +kernel
theorem dL_areBills_21 : decode cL_areBills 21 = .ok (.ldc 82, 2) := by decide +kernel
theorem dL_areBills_23 : decode cL_areBills 23 = .ok (.if_icmp .ne 49, 3) := by decide +kernel
theorem dL_areBills_26 : decode cL_areBills 26 = .ok (.aload_n 0, 1) := by decide +kernel
theorem dL_areBills_27 : decode cL_areBills 27 = .ok (.iconst 1, 1) := by decide +kernel
theorem dL_areBills_28 : decode cL_areBills 28 = .ok (.iconst (-1), 1) := by decide +kernel
theorem dL_areBills_29 : decode cL_areBills 29 = .ok (.iconst 0, 1) := by decide +kernel
theorem dL_areBills_30 : decode cL_areBills 30 = .ok (.invokestatic 94, 3) := by decide +kernel
theorem dL_areBills_33 : decode cL_areBills 33 = .ok (.ldc 82, 2) := by decide +kernel
theorem dL_areBills_35 : decode cL_areBills 35 = .ok (.if_icmp .ne 37, 3) := by decide +kernel
theorem dL_areBills_38 : decode cL_areBills 38 = .ok (.aload_n 0, 1) := by decide +kernel
theorem dL_areBills_39 : decode cL_areBills 39 = .ok (.iconst 2, 1) := by decide +kernel
theorem dL_areBills_40 : decode cL_areBills 40 = .ok (.aload 4, 2) := by decide +kernel
theorem dL_areBills_42 : decode cL_areBills 42 = .ok (.iconst 0, 1) := by decide +kernel
theorem dL_areBills_43 : decode cL_areBills 43 = .ok (.iaload, 1) := by decide +kernel
theorem dL_areBills_44 : decode cL_areBills 44 = .ok (.iconst 0, 1) := by decide +kernel
theorem dL_areBills_45 : decode cL_areBills 45 = .ok (.invokestatic 94, 3) := by decide +kernel
theorem dL_areBills_48 : decode cL_areBills 48 = .ok (.ldc 82, 2) := by decide +kernel
theorem dL_areBills_50 : decode cL_areBills 50 = .ok (.if_icmp .ne 22, 3) := by decide +kernel
theorem dL_areBills_53 : decode cL_areBills 53 = .ok (.aload_n 0, 1) := by decide +kernel
theorem dL_areBills_54 : decode cL_areBills 54 = .ok (.iconst 3, 1) := by decide +kernel
theorem dL_areBills_55 : decode cL_areBills 55 = .ok (.aload 4, 2) := by decide +kernel
theorem dL_areBills_57 : decode cL_areBills 57 = .ok (.iconst 0, 1) := by decide +kernel
theorem dL_areBills_58 : decode cL_areBills 58 = .ok (.iaload, 1) := by decide +kernel
theorem dL_areBills_59 : decode cL_areBills 59 = .ok (.iconst 0, 1) := by decide +kernel
theorem dL_areBills_60 : decode cL_areBills 60 = .ok (.invokestatic 94, 3) := by decide +kernel
theorem dL_areBills_63 : decode cL_areBills 63 = .ok (.ldc 82, 2) := by decide +kernel
theorem dL_areBills_65 : decode cL_areBills 65 = .ok (.if_icmp .ne 7, 3) := by decide +kernel
theorem dL_areBills_68 : decode cL_areBills 68 = .ok (.iconst 1, 1) := by decide +kernel
theorem dL_areBills_69 : decode cL_areBills 69 = .ok (.goto 4, 3) := by decide +kernel
theorem dL_areBills_72 : decode cL_areBills 72 = .ok (.iconst 0, 1) := by decide +kernel
theorem dL_areBills_73 : decode cL_areBills 73 = .ok (.istore 5, 2) := by decide +kernel
theorem dL_areBills_75 : decode cL_areBills 75 = .ok (.iconst 0, 1) := by decide +kernel
theorem dL_areBills_76 : decode cL_areBills 76 = .ok (.istore 6, 2) := by decide +kernel
theorem dL_areBills_78 : decode cL_areBills 78 = .ok (.iload 6, 2) := by decide +kernel
theorem dL_areBills_80 : decode cL_areBills 80 = .ok (.aload 4, 2) := by decide +kernel
theorem dL_areBills_82 : decode cL_areBills 82 = .ok (.iconst 0, 1) := by decide +kernel
theorem dL_areBills_83 : decode cL_areBills 83 = .ok (.iaload, 1) := by decide +kernel
theorem dL_areBills_84 : decode cL_areBills 84 = .ok (.if_icmp .ge 152, 3) := by decide +kernel
theorem dL_areBills_87 : decode cL_areBills 87 = .ok (.iload 5, 2) := by decide +kernel
theorem dL_areBills_89 : decode cL_areBills 89 = .ok (.ifCond .eq 147, 3) := by decide +kernel
theorem dL_areBills_92 : decode cL_areBills 92 = .ok (.aload_n 0, 1) := by decide +kernel
theorem dL_areBills_93 : decode cL_areBills 93 = .ok (.iload 6, 2) := by decide +kernel
theorem dL_areBills_95 : decode cL_areBills 95 = .ok (.invokevirtual 55, 3) := by decide +kernel
theorem dL_areBills_98 : decode cL_areBills 98 = .ok (.istore 7, 2) := by decide +kernel
theorem dL_areBills_100 : decode cL_areBills 100 = .ok (.aload_n 0, 1) := by decide +kernel
theorem dL_areBills_101 : decode cL_areBills 101 = .ok (.iload 6, 2) := by decide +kernel
theorem dL_areBills_103 : decode cL_areBills 103 = .ok (.invokevirtual 58, 3) := by decide +kernel
theorem dL_areBills_106 : decode cL_areBills 106 = .ok (.istore 8, 2) := by decide +kernel
theorem dL_areBills_108 : decode cL_areBills 108 = .ok (.aload_n 0, 1) := by decide +kernel
theorem dL_areBills_109 : decode cL_areBills 109 = .ok (.iload 6, 2) := by decide +kernel
theorem dL_areBills_111 : decode cL_areBills 111 = .ok (.invokevirtual 61, 3) := by decide +kernel
theorem dL_areBills_114 : decode cL_areBills 114 = .ok (.istore 9, 2) := by decide +kernel
theorem dL_areBills_116 : decode cL_areBills 116 = .ok (.iload 7, 2) := by decide +kernel
theorem dL_areBills_118 : decode cL_areBills 118 = .ok (.aload_n 2, 1) := by decide +kernel
theorem dL_areBills_119 : decode cL_areBills 119 = .ok (.iload 6, 2) := by decide +kernel
theorem dL_areBills_121 : decode cL_areBills 121 = .ok (.iaload, 1) := by decide +kernel
theorem dL_areBills_122 : decode cL_areBills 122 = .ok (.if_icmp .ne 105, 3) := by decide +kernel
theorem dL_areBills_125 : decode cL_areBills 125 = .ok (.iload 8, 2) := by decide +kernel
theorem dL_areBills_127 : decode cL_areBills 127 = .ok (.ifCond .lt 100, 3) := by decide +kernel
theorem dL_areBills_130 : decode cL_areBills 130 = .ok (.iload 8, 2) := by decide +kernel
theorem dL_areBills_132 : decode cL_areBills 132 = .ok (.ldc 98, 2) := by decide +kernel
theorem dL_areBills_134 : decode cL_areBills 134 = .ok (.if_icmp .gt 93, 3) := by decide +kernel
theorem dL_areBills_137 : decode cL_areBills 137 = .ok (.iload 9, 2) := by decide +kernel
theorem dL_areBills_139 : decode cL_areBills 139 = .ok (.ifCond .lt 88, 3) := by decide +kernel
theorem dL_areBills_142 : decode cL_areBills 142 = .ok (.iload 9, 2) := by decide +kernel
theorem dL_areBills_144 : decode cL_areBills 144 = .ok (.iload 8, 2) := by decide +kernel
theorem dL_areBills_146 : decode cL_areBills 146 = .ok (.if_icmp .gt 81, 3) := by decide +kernel
theorem dL_areBills_149 : decode cL_areBills 149 = .ok (.iload 7, 2) := by decide +kernel
theorem dL_areBills_151 : decode cL_areBills 151 = .ok (.iconst 2, 1) := by decide +kernel
theorem dL_areBills_152 : decode cL_areBills 152 = .ok (.if_icmp .gt 8, 3) := by decide +kernel
theorem dL_areBills_155 : decode cL_areBills 155 = .ok (.iload 9, 2) := by decide +kernel
theorem dL_areBills_157 : decode cL_areBills 157 = .ok (.ifCond .ne 70, 3) := by decide +kernel
theorem dL_areBills_160 : decode cL_areBills 160 = .ok (.iload 7, 2) := by decide +kernel
theorem dL_areBills_162 : decode cL_areBills 162 = .ok (.iconst 4, 1) := by decide +kernel
theorem dL_areBills_163 : decode cL_areBills 163 = .ok (.if_icmp .lt 10, 3) := by decide +kernel
theorem dL_areBills_166 : decode cL_areBills 166 = .ok (.iload 9, 2) := by decide +kernel
theorem dL_areBills_168 : decode cL_areBills 168 = .ok (.iload 8, 2) := by decide +kernel
theorem dL_areBills_170 : decode cL_areBills 170 = .ok (.if_icmp .ne 57, 3) := by decide +kernel
theorem dL_areBills_173 : decode cL_areBills 173 = .ok (.aload_n 0, 1) := by decide +kernel
theorem dL_areBills_174 : decode cL_areBills 174 = .ok (.iload 6, 2) := by decide +kernel
theorem dL_areBills_176 : decode cL_areBills 176 = .ok (.invokevirtual 64, 3) := by decide +kernel
theorem dL_areBills_179 : decode cL_areBills 179 = .ok (.ifCond .lt 48, 3) := by decide +kernel
theorem dL_areBills_182 : decode cL_areBills 182 = .ok (.aload_n 0, 1) := by decide +kernel
theorem dL_areBills_183 : decode cL_areBills 183 = .ok (.iload 6, 2) := by decide +kernel
theorem dL_areBills_185 : decode cL_areBills 185 = .ok (.invokevirtual 64, 3) := by decide +kernel
theorem dL_areBills_188 : decode cL_areBills 188 = .ok (.iload 9, 2) := by decide +kernel
theorem dL_areBills_190 : decode cL_areBills 190 = .ok (.if_icmp .gt 37, 3) := by decide +kernel
theorem dL_areBills_193 : decode cL_areBills 193 = .ok (.iload 7, 2) := by decide +kernel
theorem dL_areBills_195 : decode cL_areBills 195 = .ok (.iconst 1, 1) := by decide +kernel
theorem dL_areBills_196 : decode cL_areBills 196 = .ok (.if_icmp .ne 18, 3) := by decide +kernel
theorem dL_areBills_199 : decode cL_areBills 199 = .ok (.aload_n 1, 1) := by decide +kernel
theorem dL_areBills_200 : decode cL_areBills 200 = .ok (.iconst 2, 1) := by decide +kernel
theorem dL_areBills_201 : decode cL_areBills 201 = .ok (.iload 6, 2) := by decide +kernel
theorem dL_areBills_203 : decode cL_areBills 203 = .ok (.imul, 1) := by decide +kernel
theorem dL_areBills_204 : decode cL_areBills 204 = .ok (.iconst 1, 1) := by decide +kernel
theorem dL_areBills_205 : decode cL_areBills 205 = .ok (.iadd, 1) := by decide +kernel
theorem dL_areBills_206 : decode cL_areBills 206 = .ok (.iaload, 1) := by decide +kernel
theorem dL_areBills_207 : decode cL_areBills 207 = .ok (.aload 4, 2) := by decide +kernel
theorem dL_areBills_209 : decode cL_areBills 209 = .ok (.iconst 1, 1) := by decide +kernel
theorem dL_areBills_210 : decode cL_areBills 210 = .ok (.iaload, 1) := by decide +kernel
theorem dL_areBills_211 : decode cL_areBills 211 = .ok (.if_icmp .le 16, 3) := by decide +kernel
theorem dL_areBills_214 : decode cL_areBills 214 = .ok (.aload_n 3, 1) := by decide +kernel
theorem dL_areBills_215 : decode cL_areBills 215 = .ok (.iload 6, 2) := by decide +kernel
theorem dL_areBills_217 : decode cL_areBills 217 = .ok (.iaload, 1) := by decide +kernel
theorem dL_areBills_218 : decode cL_areBills 218 = .ok (.iload 8, 2) := by decide +kernel
theorem dL_areBills_220 : decode cL_areBills 220 = .ok (.if_icmp .gt 7, 3) := by decide +kernel
theorem dL_areBills_223 : decode cL_areBills 223 = .ok (.iconst 1, 1) := by decide +kernel
theorem dL_areBills_224 : decode cL_areBills 224 = .ok (.goto 4, 3) := by decide +kernel
theorem dL_areBills_227 : decode cL_areBills 227 = .ok (.iconst 0, 1) := by decide +kernel
theorem dL_areBills_228 : decode cL_areBills 228 = .ok (.istore 5, 2) := by decide +kernel
theorem dL_areBills_230 : decode cL_areBills 230 = .ok (.iinc 6 1, 3) := by decide +kernel
theorem dL_areBills_233 : decode cL_areBills 233 = .ok (.goto (-155), 3) := by decide +kernel
theorem dL_areBills_236 : decode cL_areBills 236 = .ok (.iload 5, 2) := by decide +kernel
theorem dL_areBills_238 : decode cL_areBills 238 = .ok (.ireturn, 1) := by decide +kernel
set_option maxRecDepth 20000 in
theorem ggL_isMoney_L_asks : GoodIn wsL_isMoney wsL_asks := goodIn_ca (goodIn_ca (goodIn_r _ [7, 8, 9, 1, 10, 11, 12, 13, 14, 15, 16, 17, 18, 19, 20, 21, 22, 23, 24, 25, 26, 27, 28, 29, 30, 31, 32, 33, 34, 35, 36, 37, 38, 39, 40, 41, 42, 43, 44, 45, 46, 47, 48, 49, 50, 51, 52, 53, 54, 55, 56, 57, 58, 59, 60, 61, 62, 63, 64, 65, 66, 67, 68, 69, 70, 71, 72, 73, 74, 75, 76, 77, 78, 79, 80, 81, 82, 83, 84, 85, 86, 87, 88, 89, 90, 91, 92, 93, 94, 95, 96, 97, 98, 99, 100, 101, 102, 103, 104, 105, 106, 107, 108, 109, 110, 111, 112, 113, 114, 115, 116, 117, 118, 119, 120, 121, 122, 123, 124, 125, 126, 127, 128, 129, 130, 131, 132, 133, 134, 135, 136, 137, 138, 139, 140, 141, 142, 143, 144, 145, 146, 147, 148, 149, 150, 151, 152, 153, 154, 155, 156, 157, 158, 159, 160, 161, 162, 163, 164, 165, 166, 167, 168, 169, 170, 171, 172, 173, 174, 175, 176, 177, 178, 179, 180, 181, 182, 183, 184, 185, 186, 187, 188, 189, 190, 191, 192, 193, 194, 195, 196, 197, 198, 199, 200, 201, 202, 203, 204, 205, 206, 207, 208, 209, 210, 211, 212, 213, 214, 215, 216, 217, 218, 226, 227, 228, 229, 230, 231, 232, 233, 234, 235, 236, 237, 238, 239, 240, 241, 242, 243, 244, 245] (by decide +kernel) (by decide +kernel)) (goodIn_sub (fun _ h => List.mem_cons_of_mem _ (List.mem_append_left _ (List.mem_append_right _ h))) (by decide +kernel))) (goodIn_sub (fun _ h => List.mem_cons_of_mem _ (List.mem_append_right _ h)) (by decide +kernel))
set_option maxRecDepth 20000 in
theorem gL_isMoney_L_asks : GoodIn wsL_isMoney (va_wsS RL 94 yL_asks wsL_asks) := goodIn_app (goodIn_of _ (by decide +kernel)) ggL_isMoney_L_asks
set_option maxRecDepth 20000 in
theorem ggL_isMoney_X1_heldBack : GoodIn wsL_isMoney wsX1_heldBack := goodIn_ca (goodIn_r _ [61, 62, 17, 18, 19, 14, 20, 21, 22, 23, 24, 25, 26, 27, 28, 29, 30, 31, 32, 33, 34, 35, 36, 37, 38, 39, 40, 41, 42, 43, 44, 45, 46, 47, 226, 227, 228, 229, 230, 231, 232, 233, 234, 235, 236, 237, 238, 239, 240, 241, 242, 243, 244, 245] (by decide +kernel) (by decide +kernel)) (goodIn_sub (fun _ h => List.mem_cons_of_mem _ (List.mem_append_left _ (List.mem_append_right _ h))) (by decide +kernel))
set_option maxRecDepth 20000 in
theorem gL_isMoney_X1_heldBack : GoodIn wsL_isMoney (wsV RL 64 RX1 yX1_heldBack wsX1_heldBack) := goodIn_app (goodIn_of _ (by decide +kernel)) ggL_isMoney_X1_heldBack
set_option maxRecDepth 20000 in
theorem ggL_isMoney_X1_paid : GoodIn wsL_isMoney wsX1_paid := goodIn_ca (goodIn_r _ [56, 57, 17, 18, 19, 14, 20, 21, 22, 23, 24, 25, 26, 27, 28, 29, 30, 31, 32, 33, 34, 35, 36, 37, 38, 39, 40, 41, 42, 43, 44, 45, 46, 47, 226, 227, 228, 229, 230, 231, 232, 233, 234, 235, 236, 237, 238, 239, 240, 241, 242, 243, 244, 245] (by decide +kernel) (by decide +kernel)) (goodIn_sub (fun _ h => List.mem_cons_of_mem _ (List.mem_append_left _ (List.mem_append_right _ h))) (by decide +kernel))
set_option maxRecDepth 20000 in
theorem gL_isMoney_X1_paid : GoodIn wsL_isMoney (wsV RL 61 RX1 yX1_paid wsX1_paid) := goodIn_app (goodIn_of _ (by decide +kernel)) ggL_isMoney_X1_paid
set_option maxRecDepth 20000 in
theorem ggL_isMoney_X1_claim : GoodIn wsL_isMoney wsX1_claim := goodIn_ca (goodIn_r _ [218, 199, 165, 166, 14, 167, 67, 68, 69, 21, 22, 168, 169, 170, 236, 237, 238, 239, 240, 241, 242] (by decide +kernel) (by decide +kernel)) (goodIn_sub (fun _ h => List.mem_cons_of_mem _ (List.mem_append_left _ (List.mem_append_right _ h))) (by decide +kernel))
set_option maxRecDepth 20000 in
theorem gL_isMoney_X1_claim : GoodIn wsL_isMoney (wsV RL 79 RX1 yX1_claim wsX1_claim) := goodIn_app (goodIn_of _ (by decide +kernel)) ggL_isMoney_X1_claim
set_option maxRecDepth 20000 in
theorem ggL_isMoney_X1_left : GoodIn wsL_isMoney wsX1_left := goodIn_ca (goodIn_r _ [163, 164, 165, 166, 14, 167, 67, 68, 69, 21, 22, 168, 169, 170, 171, 172, 173, 174, 23, 24, 75, 154, 16, 175, 76, 57, 25, 26, 27, 28, 29, 30, 31, 32, 33, 34, 35, 36, 37, 38, 39, 40, 41, 42, 43, 44, 45, 46, 47, 236, 237, 238, 239, 240, 241, 242, 226, 227, 228, 229, 230, 231, 232, 233, 234, 235, 243, 244, 245] (by decide +kernel) (by decide +kernel)) (goodIn_sub (fun _ h => List.mem_cons_of_mem _ (List.mem_append_left _ (List.mem_append_right _ h))) (by decide +kernel))
set_option maxRecDepth 20000 in
theorem gL_isMoney_X1_left : GoodIn wsL_isMoney (wsV RL 76 RX1 yX1_left wsX1_left) := goodIn_app (goodIn_of _ (by decide +kernel)) ggL_isMoney_X1_left
set_option maxRecDepth 20000 in
theorem ggL_isMoney_X1_amount : GoodIn wsL_isMoney wsX1_amount := goodIn_ca (goodIn_r _ [51, 52, 17, 18, 19, 14, 20, 21, 22, 23, 24, 25, 26, 27, 28, 29, 30, 31, 32, 33, 34, 35, 36, 37, 38, 39, 40, 41, 42, 43, 44, 45, 46, 47, 226, 227, 228, 229, 230, 231, 232, 233, 234, 235, 236, 237, 238, 239, 240, 241, 242, 243, 244, 245] (by decide +kernel) (by decide +kernel)) (goodIn_sub (fun _ h => List.mem_cons_of_mem _ (List.mem_append_left _ (List.mem_append_right _ h))) (by decide +kernel))
set_option maxRecDepth 20000 in
theorem gL_isMoney_X1_amount : GoodIn wsL_isMoney (wsV RL 58 RX1 yX1_amount wsX1_amount) := goodIn_app (goodIn_of _ (by decide +kernel)) ggL_isMoney_X1_amount
set_option maxRecDepth 20000 in
theorem ggL_isMoney_L_average : GoodIn wsL_isMoney wsL_average := goodIn_ca (goodIn_ca (goodIn_r _ [221, 8, 9, 3, 2, 222, 223, 224, 14, 225, 23, 24, 75, 16, 52, 57, 67, 68, 69, 21, 22, 25, 26, 27, 28, 29, 30, 31, 32, 33, 34, 35, 36, 37, 38, 39, 40, 41, 42, 43, 44, 45, 46, 47, 205, 206, 207, 208, 209, 236, 237, 238, 239, 240, 241, 242, 226, 227, 228, 229, 230, 231, 232, 233, 234, 235, 243, 244, 245] (by decide +kernel) (by decide +kernel)) (goodIn_sub (fun _ h => List.mem_cons_of_mem _ (List.mem_append_left _ (List.mem_append_right _ h))) (by decide +kernel))) (goodIn_sub (fun _ h => List.mem_cons_of_mem _ (List.mem_append_right _ h)) (by decide +kernel))
set_option maxRecDepth 20000 in
theorem gL_isMoney_L_average : GoodIn wsL_isMoney (va_wsS RL 99 yL_average wsL_average) := goodIn_app (goodIn_of _ (by decide +kernel)) ggL_isMoney_L_average
theorem dL_isMoney_0 : decode cL_isMoney 0 = .ok (.aload_n 0, 1) := by decide +kernel
theorem dL_isMoney_1 : decode cL_isMoney 1 = .ok (.bipush 7, 2) := by decide +kernel
theorem dL_isMoney_3 : decode cL_isMoney 3 = .ok (.iconst 4, 1) := by decide +kernel
theorem dL_isMoney_4 : decode cL_isMoney 4 = .ok (.iconst 0, 1) := by decide +kernel
theorem dL_isMoney_5 : decode cL_isMoney 5 = .ok (.invokestatic 94, 3) := by decide +kernel
theorem dL_isMoney_8 : decode cL_isMoney 8 = .ok (.ldc 82, 2) := by decide +kernel
theorem dL_isMoney_10 : decode cL_isMoney 10 = .ok (.if_icmp .ne 21, 3) := by decide +kernel
theorem dL_isMoney_13 : decode cL_isMoney 13 = .ok (.aload_n 0, 1) := by decide +kernel
theorem dL_isMoney_14 : decode cL_isMoney 14 = .ok (.bipush 8, 2) := by decide +kernel
theorem dL_isMoney_16 : decode cL_isMoney 16 = .ok (.iconst 0, 1) := by decide +kernel
theorem dL_isMoney_17 : decode cL_isMoney 17 = .ok (.bipush 8, 2) := by decide +kernel
theorem dL_isMoney_19 : decode cL_isMoney 19 = .ok (.invokestatic 94, 3) := by decide +kernel
theorem dL_isMoney_22 : decode cL_isMoney 22 = .ok (.ldc 82, 2) := by decide +kernel
theorem dL_isMoney_24 : decode cL_isMoney 24 = .ok (.if_icmp .ne 7, 3) := by decide +kernel
theorem dL_isMoney_27 : decode cL_isMoney 27 = .ok (.iconst 1, 1) := by decide +kernel
theorem dL_isMoney_28 : decode cL_isMoney 28 = .ok (.goto 4, 3) := by decide +kernel
theorem dL_isMoney_31 : decode cL_isMoney 31 = .ok (.iconst 0, 1) := by decide +kernel
theorem dL_isMoney_32 : decode cL_isMoney 32 = .ok (.istore 6, 2) := by decide +kernel
theorem dL_isMoney_34 : decode cL_isMoney 34 = .ok (.iconst 0, 1) := by decide +kernel
theorem dL_isMoney_35 : decode cL_isMoney 35 = .ok (.istore 7, 2) := by decide +kernel
theorem dL_isMoney_37 : decode cL_isMoney 37 = .ok (.iload 7, 2) := by decide +kernel
theorem dL_isMoney_39 : decode cL_isMoney 39 = .ok (.bipush 32, 2) := by decide +kernel
theorem dL_isMoney_41 : decode cL_isMoney 41 = .ok (.if_icmp .ge 186, 3) := by decide +kernel
theorem dL_isMoney_44 : decode cL_isMoney 44 = .ok (.iload 6, 2) := by decide +kernel
theorem dL_isMoney_46 : decode cL_isMoney 46 = .ok (.ifCond .eq 181, 3) := by decide +kernel
theorem dL_isMoney_49 : decode cL_isMoney 49 = .ok (.iconst 0, 1) := by decide +kernel
theorem dL_isMoney_50 : decode cL_isMoney 50 = .ok (.istore 8, 2) := by decide +kernel
theorem dL_isMoney_52 : decode cL_isMoney 52 = .ok (.iconst 0, 1) := by decide +kernel
theorem dL_isMoney_53 : decode cL_isMoney 53 = .ok (.istore 9, 2) := by decide +kernel
theorem dL_isMoney_55 : decode cL_isMoney 55 = .ok (.iconst 0, 1) := by decide +kernel
theorem dL_isMoney_56 : decode cL_isMoney 56 = .ok (.istore 10, 2) := by decide +kernel
theorem dL_isMoney_58 : decode cL_isMoney 58 = .ok (.iload 10, 2) := by decide +kernel
theorem dL_isMoney_60 : decode cL_isMoney 60 = .ok (.aload 5, 2) := by decide +kernel
theorem dL_isMoney_62 : decode cL_isMoney 62 = .ok (.iconst 0, 1) := by decide +kernel
theorem dL_isMoney_63 : decode cL_isMoney 63 = .ok (.iaload, 1) := by decide +kernel
theorem dL_isMoney_64 : decode cL_isMoney 64 = .ok (.if_icmp .ge 84, 3) := by decide +kernel
theorem dL_isMoney_67 : decode cL_isMoney 67 = .ok (.iload 8, 2) := by decide +kernel
theorem dL_isMoney_69 : decode cL_isMoney 69 = .ok (.aload_n 1, 1) := by decide +kernel
theorem dL_isMoney_70 : decode cL_isMoney 70 = .ok (.iconst 2, 1) := by decide +kernel
theorem dL_isMoney_71 : decode cL_isMoney 71 = .ok (.iload 10, 2) := by decide +kernel
theorem dL_isMoney_73 : decode cL_isMoney 73 = .ok (.imul, 1) := by decide +kernel
theorem dL_isMoney_74 : decode cL_isMoney 74 = .ok (.iaload, 1) := by decide +kernel
theorem dL_isMoney_75 : decode cL_isMoney 75 = .ok (.iload 7, 2) := by decide +kernel
theorem dL_isMoney_77 : decode cL_isMoney 77 = .ok (.if_icmp .ne 12, 3) := by decide +kernel
theorem dL_isMoney_80 : decode cL_isMoney 80 = .ok (.aload_n 0, 1) := by decide +kernel
theorem dL_isMoney_81 : decode cL_isMoney 81 = .ok (.iload 10, 2) := by decide +kernel
theorem dL_isMoney_83 : decode cL_isMoney 83 = .ok (.invokevirtual 64, 3) := by decide +kernel
theorem dL_isMoney_86 : decode cL_isMoney 86 = .ok (.goto 4, 3) := by decide +kernel
theorem dL_isMoney_89 : decode cL_isMoney 89 = .ok (.iconst 0, 1) := by decide +kernel
theorem dL_isMoney_90 : decode cL_isMoney 90 = .ok (.iadd, 1) := by decide +kernel
theorem dL_isMoney_91 : decode cL_isMoney 91 = .ok (.istore 8, 2) := by decide +kernel
theorem dL_isMoney_93 : decode cL_isMoney 93 = .ok (.iload 9, 2) := by decide +kernel
theorem dL_isMoney_95 : decode cL_isMoney 95 = .ok (.aload_n 1, 1) := by decide +kernel
theorem dL_isMoney_96 : decode cL_isMoney 96 = .ok (.iconst 2, 1) := by decide +kernel
theorem dL_isMoney_97 : decode cL_isMoney 97 = .ok (.iload 10, 2) := by decide +kernel
theorem dL_isMoney_99 : decode cL_isMoney 99 = .ok (.imul, 1) := by decide +kernel
theorem dL_isMoney_100 : decode cL_isMoney 100 = .ok (.iaload, 1) := by decide +kernel
theorem dL_isMoney_101 : decode cL_isMoney 101 = .ok (.iload 7, 2) := by decide +kernel
theorem dL_isMoney_103 : decode cL_isMoney 103 = .ok (.if_icmp .ne 35, 3) := by decide +kernel
theorem dL_isMoney_106 : decode cL_isMoney 106 = .ok (.aload_n 2, 1) := by decide +kernel
theorem dL_isMoney_107 : decode cL_isMoney 107 = .ok (.iload 10, 2) := by decide +kernel
theorem dL_isMoney_109 : decode cL_isMoney 109 = .ok (.iaload, 1) := by decide +kernel
theorem dL_isMoney_110 : decode cL_isMoney 110 = .ok (.iconst 3, 1) := by decide +kernel
theorem dL_isMoney_111 : decode cL_isMoney 111 = .ok (.if_icmp .ne 27, 3) := by decide +kernel
theorem dL_isMoney_114 : decode cL_isMoney 114 = .ok (.aload_n 1, 1) := by decide +kernel
theorem dL_isMoney_115 : decode cL_isMoney 115 = .ok (.iconst 2, 1) := by decide +kernel
theorem dL_isMoney_116 : decode cL_isMoney 116 = .ok (.iload 10, 2) := by decide +kernel
theorem dL_isMoney_118 : decode cL_isMoney 118 = .ok (.imul, 1) := by decide +kernel
theorem dL_isMoney_119 : decode cL_isMoney 119 = .ok (.iconst 1, 1) := by decide +kernel
theorem dL_isMoney_120 : decode cL_isMoney 120 = .ok (.iadd, 1) := by decide +kernel
theorem dL_isMoney_121 : decode cL_isMoney 121 = .ok (.iaload, 1) := by decide +kernel
theorem dL_isMoney_122 : decode cL_isMoney 122 = .ok (.aload 5, 2) := by decide +kernel
theorem dL_isMoney_124 : decode cL_isMoney 124 = .ok (.iconst 1, 1) := by decide +kernel
theorem dL_isMoney_125 : decode cL_isMoney 125 = .ok (.iaload, 1) := by decide +kernel
theorem dL_isMoney_126 : decode cL_isMoney 126 = .ok (.if_icmp .le 12, 3) := by decide +kernel
theorem dL_isMoney_129 : decode cL_isMoney 129 = .ok (.aload_n 0, 1) := by decide +kernel
theorem dL_isMoney_130 : decode cL_isMoney 130 = .ok (.iload 10, 2) := by decide +kernel
theorem dL_isMoney_132 : decode cL_isMoney 132 = .ok (.invokevirtual 61, 3) := by decide +kernel
theorem dL_isMoney_135 : decode cL_isMoney 135 = .ok (.goto 4, 3) := by decide +kernel
theorem dL_isMoney_138 : decode cL_isMoney 138 = .ok (.iconst 0, 1) := by decide +kernel
theorem dL_isMoney_139 : decode cL_isMoney 139 = .ok (.iadd, 1) := by decide +kernel
theorem dL_isMoney_140 : decode cL_isMoney 140 = .ok (.istore 9, 2) := by decide +kernel
theorem dL_isMoney_142 : decode cL_isMoney 142 = .ok (.iinc 10 1, 3) := by decide +kernel
theorem dL_isMoney_145 : decode cL_isMoney 145 = .ok (.goto (-87), 3) := by decide +kernel
theorem dL_isMoney_148 : decode cL_isMoney 148 = .ok (.aload_n 0, 1) := by decide +kernel
theorem dL_isMoney_149 : decode cL_isMoney 149 = .ok (.iload 7, 2) := by decide +kernel
theorem dL_isMoney_151 : decode cL_isMoney 151 = .ok (.bipush 8, 2) := by decide +kernel
theorem dL_isMoney_153 : decode cL_isMoney 153 = .ok (.idiv, 1) := by decide +kernel
theorem dL_isMoney_154 : decode cL_isMoney 154 = .ok (.iload 7, 2) := by decide +kernel
theorem dL_isMoney_156 : decode cL_isMoney 156 = .ok (.bipush 8, 2) := by decide +kernel
theorem dL_isMoney_158 : decode cL_isMoney 158 = .ok (.irem, 1) := by decide +kernel
theorem dL_isMoney_159 : decode cL_isMoney 159 = .ok (.invokevirtual 79, 3) := by decide +kernel
theorem dL_isMoney_162 : decode cL_isMoney 162 = .ok (.ifCond .lt 56, 3) := by decide +kernel
theorem dL_isMoney_165 : decode cL_isMoney 165 = .ok (.aload_n 0, 1) := by decide +kernel
theorem dL_isMoney_166 : decode cL_isMoney 166 = .ok (.iload 7, 2) := by decide +kernel
theorem dL_isMoney_168 : decode cL_isMoney 168 = .ok (.bipush 8, 2) := by decide +kernel
theorem dL_isMoney_170 : decode cL_isMoney 170 = .ok (.idiv, 1) := by decide +kernel
theorem dL_isMoney_171 : decode cL_isMoney 171 = .ok (.iload 7, 2) := by decide +kernel
theorem dL_isMoney_173 : decode cL_isMoney 173 = .ok (.bipush 8, 2) := by decide +kernel
theorem dL_isMoney_175 : decode cL_isMoney 175 = .ok (.irem, 1) := by decide +kernel
theorem dL_isMoney_176 : decode cL_isMoney 176 = .ok (.invokevirtual 79, 3) := by decide +kernel
theorem dL_isMoney_179 : decode cL_isMoney 179 = .ok (.iload 8, 2) := by decide +kernel
theorem dL_isMoney_181 : decode cL_isMoney 181 = .ok (.iadd, 1) := by decide +kernel
theorem dL_isMoney_182 : decode cL_isMoney 182 = .ok (.aload_n 3, 1) := by decide +kernel
theorem dL_isMoney_183 : decode cL_isMoney 183 = .ok (.iload 7, 2) := by decide +kernel
theorem dL_isMoney_185 : decode cL_isMoney 185 = .ok (.iaload, 1) := by decide +kernel
theorem dL_isMoney_186 : decode cL_isMoney 186 = .ok (.if_icmp .ne 32, 3) := by decide +kernel
theorem dL_isMoney_189 : decode cL_isMoney 189 = .ok (.aload_n 0, 1) := by decide +kernel
theorem dL_isMoney_190 : decode cL_isMoney 190 = .ok (.iload 7, 2) := by decide +kernel
theorem dL_isMoney_192 : decode cL_isMoney 192 = .ok (.bipush 8, 2) := by decide +kernel
theorem dL_isMoney_194 : decode cL_isMoney 194 = .ok (.idiv, 1) := by decide +kernel
theorem dL_isMoney_195 : decode cL_isMoney 195 = .ok (.iload 7, 2) := by decide +kernel
theorem dL_isMoney_197 : decode cL_isMoney 197 = .ok (.bipush 8, 2) := by decide +kernel
theorem dL_isMoney_199 : decode cL_isMoney 199 = .ok (.irem, 1) := by decide +kernel
theorem dL_isMoney_200 : decode cL_isMoney 200 = .ok (.invokevirtual 76, 3) := by decide +kernel
theorem dL_isMoney_203 : decode cL_isMoney 203 = .ok (.aload 4, 2) := by decide +kernel
theorem dL_isMoney_205 : decode cL_isMoney 205 = .ok (.iload 7, 2) := by decide +kernel
theorem dL_isMoney_207 : decode cL_isMoney 207 = .ok (.iaload, 1) := by decide +kernel
theorem dL_isMoney_208 : decode cL_isMoney 208 = .ok (.iload 9, 2) := by decide +kernel
theorem dL_isMoney_210 : decode cL_isMoney 210 = .ok (.isub, 1) := by decide +kernel
theorem dL_isMoney_211 : decode cL_isMoney 211 = .ok (.if_icmp .ne 7, 3) := by decide +kernel
theorem dL_isMoney_214 : decode cL_isMoney 214 = .ok (.iconst 1, 1) := by decide +kernel
theorem dL_isMoney_215 : decode cL_isMoney 215 = .ok (.goto 4, 3) := by decide +kernel
theorem dL_isMoney_218 : decode cL_isMoney 218 = .ok (.iconst 0, 1) := by decide +kernel
theorem dL_isMoney_219 : decode cL_isMoney 219 = .ok (.istore 6, 2) := by decide +kernel
theorem dL_isMoney_221 : decode cL_isMoney 221 = .ok (.iinc 7 1, 3) := by decide +kernel
theorem dL_isMoney_224 : decode cL_isMoney 224 = .ok (.goto (-187), 3) := by decide +kernel
theorem dL_isMoney_227 : decode cL_isMoney 227 = .ok (.iconst 0, 1) := by decide +kernel
theorem dL_isMoney_228 : decode cL_isMoney 228 = .ok (.istore 7, 2) := by decide +kernel
theorem dL_isMoney_230 : decode cL_isMoney 230 = .ok (.iload 7, 2) := by decide +kernel
theorem dL_isMoney_232 : decode cL_isMoney 232 = .ok (.iconst 4, 1) := by decide +kernel
theorem dL_isMoney_233 : decode cL_isMoney 233 = .ok (.if_icmp .ge 148, 3) := by decide +kernel
theorem dL_isMoney_236 : decode cL_isMoney 236 = .ok (.iload 6, 2) := by decide +kernel
theorem dL_isMoney_238 : decode cL_isMoney 238 = .ok (.ifCond .eq 143, 3) := by decide +kernel
theorem dL_isMoney_241 : decode cL_isMoney 241 = .ok (.iconst 0, 1) := by decide +kernel
theorem dL_isMoney_242 : decode cL_isMoney 242 = .ok (.istore 8, 2) := by decide +kernel
theorem dL_isMoney_244 : decode cL_isMoney 244 = .ok (.iconst 0, 1) := by decide +kernel
theorem dL_isMoney_245 : decode cL_isMoney 245 = .ok (.istore 9, 2) := by decide +kernel
theorem dL_isMoney_247 : decode cL_isMoney 247 = .ok (.iconst 0, 1) := by decide +kernel
theorem dL_isMoney_248 : decode cL_isMoney 248 = .ok (.istore 10, 2) := by decide +kernel
theorem dL_isMoney_250 : decode cL_isMoney 250 = .ok (.iload 10, 2) := by decide +kernel
theorem dL_isMoney_252 : decode cL_isMoney 252 = .ok (.aload 5, 2) := by decide +kernel
theorem dL_isMoney_254 : decode cL_isMoney 254 = .ok (.iconst 0, 1) := by decide +kernel
theorem dL_isMoney_255 : decode cL_isMoney 255 = .ok (.iaload, 1) := by decide +kernel
theorem dL_isMoney_256 : decode cL_isMoney 256 = .ok (.if_icmp .ge 85, 3) := by decide +kernel
theorem dL_isMoney_259 : decode cL_isMoney 259 = .ok (.aload_n 1, 1) := by decide +kernel
theorem dL_isMoney_260 : decode cL_isMoney 260 = .ok (.iconst 2, 1) := by decide +kernel
theorem dL_isMoney_261 : decode cL_isMoney 261 = .ok (.iload 10, 2) := by decide +kernel
theorem dL_isMoney_263 : decode cL_isMoney 263 = .ok (.imul, 1) := by decide +kernel
theorem dL_isMoney_264 : decode cL_isMoney 264 = .ok (.iaload, 1) := by decide +kernel
theorem dL_isMoney_265 : decode cL_isMoney 265 = .ok (.bipush 8, 2) := by decide +kernel
theorem dL_isMoney_267 : decode cL_isMoney 267 = .ok (.idiv, 1) := by decide +kernel
theorem dL_isMoney_268 : decode cL_isMoney 268 = .ok (.iload 7, 2) := by decide +kernel
theorem dL_isMoney_270 : decode cL_isMoney 270 = .ok (.if_icmp .ne 15, 3) := by decide +kernel
theorem dL_isMoney_273 : decode cL_isMoney 273 = .ok (.aload_n 2, 1) := by decide +kernel
theorem dL_isMoney_274 : decode cL_isMoney 274 = .ok (.iload 10, 2) := by decide +kernel
theorem dL_isMoney_276 : decode cL_isMoney 276 = .ok (.iaload, 1) := by decide +kernel
theorem dL_isMoney_277 : decode cL_isMoney 277 = .ok (.iconst 3, 1) := by decide +kernel
theorem dL_isMoney_278 : decode cL_isMoney 278 = .ok (.if_icmp .ne 7, 3) := by decide +kernel
theorem dL_isMoney_281 : decode cL_isMoney 281 = .ok (.iconst 1, 1) := by decide +kernel
theorem dL_isMoney_282 : decode cL_isMoney 282 = .ok (.goto 4, 3) := by decide +kernel
theorem dL_isMoney_285 : decode cL_isMoney 285 = .ok (.iconst 0, 1) := by decide +kernel
theorem dL_isMoney_286 : decode cL_isMoney 286 = .ok (.istore 11, 2) := by decide +kernel
theorem dL_isMoney_288 : decode cL_isMoney 288 = .ok (.iload 8, 2) := by decide +kernel
theorem dL_isMoney_290 : decode cL_isMoney 290 = .ok (.iload 11, 2) := by decide +kernel
theorem dL_isMoney_292 : decode cL_isMoney 292 = .ok (.ifCond .eq 19, 3) := by decide +kernel
theorem dL_isMoney_295 : decode cL_isMoney 295 = .ok (.aload_n 0, 1) := by decide +kernel
theorem dL_isMoney_296 : decode cL_isMoney 296 = .ok (.iload 10, 2) := by decide +kernel
theorem dL_isMoney_298 : decode cL_isMoney 298 = .ok (.invokevirtual 58, 3) := by decide +kernel
theorem dL_isMoney_301 : decode cL_isMoney 301 = .ok (.aload_n 0, 1) := by decide +kernel
theorem dL_isMoney_302 : decode cL_isMoney 302 = .ok (.iload 10, 2) := by decide +kernel
theorem dL_isMoney_304 : decode cL_isMoney 304 = .ok (.invokevirtual 61, 3) := by decide +kernel
theorem dL_isMoney_307 : decode cL_isMoney 307 = .ok (.isub, 1) := by decide +kernel
theorem dL_isMoney_308 : decode cL_isMoney 308 = .ok (.goto 4, 3) := by decide +kernel
theorem dL_isMoney_311 : decode cL_isMoney 311 = .ok (.iconst 0, 1) := by decide +kernel
theorem dL_isMoney_312 : decode cL_isMoney 312 = .ok (.iadd, 1) := by decide +kernel
theorem dL_isMoney_313 : decode cL_isMoney 313 = .ok (.istore 8, 2) := by decide +kernel
theorem dL_isMoney_315 : decode cL_isMoney 315 = .ok (.iload 9, 2) := by decide +kernel
theorem dL_isMoney_317 : decode cL_isMoney 317 = .ok (.iload 11, 2) := by decide +kernel
theorem dL_isMoney_319 : decode cL_isMoney 319 = .ok (.ifCond .eq 12, 3) := by decide +kernel
theorem dL_isMoney_322 : decode cL_isMoney 322 = .ok (.aload_n 0, 1) := by decide +kernel
theorem dL_isMoney_323 : decode cL_isMoney 323 = .ok (.iload 10, 2) := by decide +kernel
theorem dL_isMoney_325 : decode cL_isMoney 325 = .ok (.invokevirtual 58, 3) := by decide +kernel
theorem dL_isMoney_328 : decode cL_isMoney 328 = .ok (.goto 4, 3) := by decide +kernel
theorem dL_isMoney_331 : decode cL_isMoney 331 = .ok (.iconst 0, 1) := by decide +kernel
theorem dL_isMoney_332 : decode cL_isMoney 332 = .ok (.iadd, 1) := by decide +kernel
theorem dL_isMoney_333 : decode cL_isMoney 333 = .ok (.istore 9, 2) := by decide +kernel
theorem dL_isMoney_335 : decode cL_isMoney 335 = .ok (.iinc 10 1, 3) := by decide +kernel
theorem dL_isMoney_338 : decode cL_isMoney 338 = .ok (.goto (-88), 3) := by decide +kernel
theorem dL_isMoney_341 : decode cL_isMoney 341 = .ok (.aload_n 0, 1) := by decide +kernel
theorem dL_isMoney_342 : decode cL_isMoney 342 = .ok (.iload 7, 2) := by decide +kernel
theorem dL_isMoney_344 : decode cL_isMoney 344 = .ok (.invokestatic 99, 3) := by decide +kernel
theorem dL_isMoney_347 : decode cL_isMoney 347 = .ok (.iload 9, 2) := by decide +kernel
theorem dL_isMoney_349 : decode cL_isMoney 349 = .ok (.ifCond .ne 8, 3) := by decide +kernel
theorem dL_isMoney_352 : decode cL_isMoney 352 = .ok (.ldc 89, 2) := by decide +kernel
theorem dL_isMoney_354 : decode cL_isMoney 354 = .ok (.goto 10, 3) := by decide +kernel
theorem dL_isMoney_357 : decode cL_isMoney 357 = .ok (.iload 8, 2) := by decide +kernel
theorem dL_isMoney_359 : decode cL_isMoney 359 = .ok (.i2f, 1) := by decide +kernel
theorem dL_isMoney_360 : decode cL_isMoney 360 = .ok (.iload 9, 2) := by decide +kernel
theorem dL_isMoney_362 : decode cL_isMoney 362 = .ok (.i2f, 1) := by decide +kernel
theorem dL_isMoney_363 : decode cL_isMoney 363 = .ok (.fdiv, 1) := by decide +kernel
theorem dL_isMoney_364 : decode cL_isMoney 364 = .ok (.fcmp .l, 1) := by decide +kernel
theorem dL_isMoney_365 : decode cL_isMoney 365 = .ok (.ifCond .ne 7, 3) := by decide +kernel
theorem dL_isMoney_368 : decode cL_isMoney 368 = .ok (.iconst 1, 1) := by decide +kernel
theorem dL_isMoney_369 : decode cL_isMoney 369 = .ok (.goto 4, 3) := by decide +kernel
theorem dL_isMoney_372 : decode cL_isMoney 372 = .ok (.iconst 0, 1) := by decide +kernel
theorem dL_isMoney_373 : decode cL_isMoney 373 = .ok (.istore 6, 2) := by decide +kernel
theorem dL_isMoney_375 : decode cL_isMoney 375 = .ok (.iinc 7 1, 3) := by decide +kernel
theorem dL_isMoney_378 : decode cL_isMoney 378 = .ok (.goto (-148), 3) := by decide +kernel
theorem dL_isMoney_381 : decode cL_isMoney 381 = .ok (.iload 6, 2) := by decide +kernel
theorem dL_isMoney_383 : decode cL_isMoney 383 = .ok (.ifCond .eq 18, 3) := by decide +kernel
theorem dL_isMoney_386 : decode cL_isMoney 386 = .ok (.aload_n 0, 1) := by decide +kernel
theorem dL_isMoney_387 : decode cL_isMoney 387 = .ok (.iconst 4, 1) := by decide +kernel
theorem dL_isMoney_388 : decode cL_isMoney 388 = .ok (.invokestatic 99, 3) := by decide +kernel
theorem dL_isMoney_391 : decode cL_isMoney 391 = .ok (.ldc 88, 2) := by decide +kernel
theorem dL_isMoney_393 : decode cL_isMoney 393 = .ok (.fcmp .l, 1) := by decide +kernel
theorem dL_isMoney_394 : decode cL_isMoney 394 = .ok (.ifCond .ne 7, 3) := by decide +kernel
theorem dL_isMoney_397 : decode cL_isMoney 397 = .ok (.iconst 1, 1) := by decide +kernel
theorem dL_isMoney_398 : decode cL_isMoney 398 = .ok (.goto 4, 3) := by decide +kernel
theorem dL_isMoney_401 : decode cL_isMoney 401 = .ok (.iconst 0, 1) := by decide +kernel
theorem dL_isMoney_402 : decode cL_isMoney 402 = .ok (.ireturn, 1) := by decide +kernel
theorem dL_bits_0 : decode cL_bits 0 = .ok (.iconst 0, 1) := by decide +kernel
theorem dL_bits_1 : decode cL_bits 1 = .ok (.istore_n 1, 1) := by decide +kernel
theorem dL_bits_2 : decode cL_bits 2 = .ok (.iconst 0, 1) := by decide +kernel
theorem dL_bits_3 : decode cL_bits 3 = .ok (.istore_n 2, 1) := by decide +kernel
theorem dL_bits_4 : decode cL_bits 4 = .ok (.iload_n 2, 1) := by decide +kernel
theorem dL_bits_5 : decode cL_bits 5 = .ok (.bipush 30, 2) := by decide +kernel
theorem dL_bits_7 : decode cL_bits 7 = .ok (.if_icmp .ge 17, 3) := by decide +kernel
theorem dL_bits_10 : decode cL_bits 10 = .ok (.iload_n 1, 1) := by decide +kernel
theorem dL_bits_11 : decode cL_bits 11 = .ok (.iload_n 0, 1) := by decide +kernel
theorem dL_bits_12 : decode cL_bits 12 = .ok (.iload_n 2, 1) := by decide +kernel
theorem dL_bits_13 : decode cL_bits 13 = .ok (.ishr, 1) := by decide +kernel
theorem dL_bits_14 : decode cL_bits 14 = .ok (.iconst 1, 1) := by decide +kernel
theorem dL_bits_15 : decode cL_bits 15 = .ok (.iand, 1) := by decide +kernel
theorem dL_bits_16 : decode cL_bits 16 = .ok (.iadd, 1) := by decide +kernel
theorem dL_bits_17 : decode cL_bits 17 = .ok (.istore_n 1, 1) := by decide +kernel
theorem dL_bits_18 : decode cL_bits 18 = .ok (.iinc 2 1, 3) := by decide +kernel
theorem dL_bits_21 : decode cL_bits 21 = .ok (.goto (-17), 3) := by decide +kernel
theorem dL_bits_24 : decode cL_bits 24 = .ok (.iload_n 1, 1) := by decide +kernel
theorem dL_bits_25 : decode cL_bits 25 = .ok (.ireturn, 1) := by decide +kernel
set_option maxRecDepth 20000 in
theorem ggL_isCleared_L_asks : GoodIn wsL_isCleared wsL_asks := goodIn_ca (goodIn_ca (goodIn_r _ [6, 7, 8, 1, 2, 9, 10, 11, 12, 13, 14, 15, 16, 17, 18, 19, 20, 21, 22, 23, 24, 25, 26, 27, 28, 29, 30, 31, 32, 33, 34, 35, 36, 37, 38, 39, 40, 41, 42, 43, 44, 45, 46, 47, 48, 49, 50, 51, 52, 53, 54, 55, 56, 57, 58, 59, 60, 61, 62, 63, 64, 65, 66, 67, 68, 69, 70, 71, 72, 73, 74, 75, 76, 77, 78, 79, 80, 81, 82, 83, 84, 85, 86, 87, 88, 89, 90, 91, 92, 93, 94, 95, 96, 97, 98, 99, 100, 101, 102, 103, 104, 105, 106, 107, 108, 109, 110, 111, 112, 113, 114, 115, 116, 117, 118, 119, 120, 121, 122, 123, 124, 125, 126, 127, 128, 129, 130, 131, 132, 133, 134, 135, 136, 137, 138, 139, 140, 141, 142, 143, 144, 145, 146, 147, 148, 149, 150, 151, 152, 153, 154, 155, 156, 157, 158, 159, 160, 161, 162, 163, 164, 165, 166, 167, 168, 169, 170, 171, 172, 173, 174, 175, 176, 177, 178, 179, 180, 181, 182, 183, 184, 185, 186, 187, 188, 189, 190, 191, 192, 193, 194, 195, 196, 197, 198, 199, 200, 201, 202, 203, 204, 205, 206, 207, 208, 209, 210, 211, 212, 213, 214, 215, 216, 309, 310, 311, 312, 313, 314, 315, 316, 317, 318, 319, 320, 321, 322, 323, 324, 325, 326, 327, 328] (by decide +kernel) (by decide +kernel)) (goodIn_sub (fun _ h => List.mem_cons_of_mem _ (List.mem_append_left _ (List.mem_append_left _ (List.mem_append_right _ h)))) (by decide +kernel))) (goodIn_sub (fun _ h => List.mem_cons_of_mem _ (List.mem_append_left _ (List.mem_append_right _ h))) (by decide +kernel))
set_option maxRecDepth 20000 in
theorem gL_isCleared_L_asks : GoodIn wsL_isCleared (va_wsS RL 94 yL_asks wsL_asks) := goodIn_app (goodIn_of _ (by decide +kernel)) ggL_isCleared_L_asks
set_option maxRecDepth 20000 in
theorem ggL_isCleared_X1_plan : GoodIn wsL_isCleared wsX1_plan := goodIn_ca (goodIn_r _ [64, 65, 66, 12, 67, 19, 20, 68, 69, 70, 71, 72, 21, 22, 73, 74, 75, 76, 77, 78, 26, 79, 80, 81, 45, 28, 23, 24, 25, 27, 29, 30, 31, 32, 33, 34, 35, 36, 37, 38, 39, 40, 41, 42, 43, 44, 82, 83, 84, 85, 86, 87, 88, 89, 90, 91, 92, 93, 94, 95, 96, 97, 98, 99, 100, 101, 102, 103, 104, 105, 106, 107, 108, 109, 110, 111, 112, 113, 114, 115, 116, 117, 118, 119, 120, 121, 122, 123, 124, 125, 126, 127, 128, 129, 130, 131, 132, 133, 134, 135, 136, 137, 138, 139, 140, 141, 142, 143, 144, 145, 146, 147, 148, 149, 150, 151, 152, 153, 154, 155, 156, 157, 158, 159, 160, 161, 162, 163, 164, 165, 166, 167, 168, 169, 170, 171, 172, 14, 173, 55, 174, 175, 176, 177, 178, 179, 180, 181, 182, 183, 319, 320, 321, 322, 323, 324, 325, 309, 310, 311, 312, 313, 314, 315, 316, 317, 318, 326, 327, 328] (by decide +kernel) (by decide +kernel)) (goodIn_sub (fun _ h => List.mem_cons_of_mem _ (List.mem_append_left _ (List.mem_append_left _ (List.mem_append_right _ h)))) (by decide +kernel))
set_option maxRecDepth 20000 in
theorem gL_isCleared_X1_plan : GoodIn wsL_isCleared (wsV RL 67 RX1 yX1_plan wsX1_plan) := goodIn_app (goodIn_of _ (by decide +kernel)) ggL_isCleared_X1_plan
set_option maxRecDepth 20000 in
theorem ggL_isCleared_X1_clear : GoodIn wsL_isCleared wsX1_clear := goodIn_ca (goodIn_r _ [187, 72, 22, 153, 74, 65, 66, 12, 67, 19, 20, 68, 69, 70, 71, 21, 73, 75, 76, 77, 78, 26, 79, 80, 81, 45, 28, 23, 24, 25, 27, 29, 30, 31, 32, 33, 34, 35, 36, 37, 38, 39, 40, 41, 42, 43, 44, 82, 83, 84, 85, 86, 87, 88, 89, 90, 91, 92, 93, 94, 95, 96, 97, 98, 99, 100, 101, 102, 103, 104, 105, 106, 107, 108, 109, 110, 111, 112, 113, 114, 115, 116, 117, 118, 119, 120, 121, 122, 123, 124, 125, 126, 127, 128, 129, 130, 131, 132, 133, 134, 135, 136, 137, 138, 139, 140, 141, 142, 143, 144, 145, 146, 147, 148, 149, 150, 151, 152, 154, 155, 156, 157, 158, 159, 160, 161, 162, 163, 164, 165, 166, 167, 168, 169, 170, 171, 172, 14, 173, 55, 174, 175, 176, 177, 178, 179, 180, 181, 182, 183, 188, 189, 190, 191, 192, 193, 194, 195, 196, 197, 198, 60, 319, 320, 321, 322, 323, 324, 325, 309, 310, 311, 312, 313, 314, 315, 316, 317, 318, 326, 327, 328] (by decide +kernel) (by decide +kernel)) (goodIn_sub (fun _ h => List.mem_cons_of_mem _ (List.mem_append_left _ (List.mem_append_left _ (List.mem_append_right _ h)))) (by decide +kernel))
set_option maxRecDepth 20000 in
theorem gL_isCleared_X1_clear : GoodIn wsL_isCleared (wsV RL 70 RX1 yX1_clear wsX1_clear) := goodIn_app (goodIn_of _ (by decide +kernel)) ggL_isCleared_X1_clear
set_option maxRecDepth 20000 in
theorem ggL_isCleared_L_bits : GoodIn wsL_isCleared wsL_bits := goodIn_r _ [219] (by decide +kernel) (by decide +kernel)
set_option maxRecDepth 20000 in
theorem gL_isCleared_L_bits : GoodIn wsL_isCleared (va_wsS RL 103 yL_bits wsL_bits) := goodIn_app (goodIn_of _ (by decide +kernel)) ggL_isCleared_L_bits
set_option maxRecDepth 20000 in
theorem ggL_isCleared_X1_state : GoodIn wsL_isCleared wsX1_state := goodIn_ca (goodIn_r _ [13, 14, 15, 16, 17, 12, 18, 19, 20, 21, 22, 23, 24, 25, 26, 27, 28, 29, 30, 31, 32, 33, 34, 35, 36, 37, 38, 39, 40, 41, 42, 43, 44, 45, 309, 310, 311, 312, 313, 314, 315, 316, 317, 318, 319, 320, 321, 322, 323, 324, 325, 326, 327, 328] (by decide +kernel) (by decide +kernel)) (goodIn_sub (fun _ h => List.mem_cons_of_mem _ (List.mem_append_left _ (List.mem_append_left _ (List.mem_append_right _ h)))) (by decide +kernel))
set_option maxRecDepth 20000 in
theorem gL_isCleared_X1_state : GoodIn wsL_isCleared (wsV RL 55 RX1 yX1_state wsX1_state) := goodIn_app (goodIn_of _ (by decide +kernel)) ggL_isCleared_X1_state
set_option maxRecDepth 20000 in
theorem ggL_isCleared_X1_left : GoodIn wsL_isCleared wsX1_left := goodIn_ca (goodIn_r _ [161, 162, 163, 164, 12, 165, 65, 66, 67, 19, 20, 166, 167, 168, 169, 170, 171, 172, 21, 22, 73, 152, 14, 173, 74, 55, 23, 24, 25, 26, 27, 28, 29, 30, 31, 32, 33, 34, 35, 36, 37, 38, 39, 40, 41, 42, 43, 44, 45, 319, 320, 321, 322, 323, 324, 325, 309, 310, 311, 312, 313, 314, 315, 316, 317, 318, 326, 327, 328] (by decide +kernel) (by decide +kernel)) (goodIn_sub (fun _ h => List.mem_cons_of_mem _ (List.mem_append_left _ (List.mem_append_left _ (List.mem_append_right _ h)))) (by decide +kernel))
set_option maxRecDepth 20000 in
theorem gL_isCleared_X1_left : GoodIn wsL_isCleared (wsV RL 76 RX1 yX1_left wsX1_left) := goodIn_app (goodIn_of _ (by decide +kernel)) ggL_isCleared_X1_left
set_option maxRecDepth 20000 in
theorem ggL_isCleared_X1_amount : GoodIn wsL_isCleared wsX1_amount := goodIn_ca (goodIn_r _ [49, 50, 15, 16, 17, 12, 18, 19, 20, 21, 22, 23, 24, 25, 26, 27, 28, 29, 30, 31, 32, 33, 34, 35, 36, 37, 38, 39, 40, 41, 42, 43, 44, 45, 309, 310, 311, 312, 313, 314, 315, 316, 317, 318, 319, 320, 321, 322, 323, 324, 325, 326, 327, 328] (by decide +kernel) (by decide +kernel)) (goodIn_sub (fun _ h => List.mem_cons_of_mem _ (List.mem_append_left _ (List.mem_append_left _ (List.mem_append_right _ h)))) (by decide +kernel))
set_option maxRecDepth 20000 in
theorem gL_isCleared_X1_amount : GoodIn wsL_isCleared (wsV RL 58 RX1 yX1_amount wsX1_amount) := goodIn_app (goodIn_of _ (by decide +kernel)) ggL_isCleared_X1_amount
set_option maxRecDepth 20000 in
theorem ggL_isCleared_X1_paid : GoodIn wsL_isCleared wsX1_paid := goodIn_ca (goodIn_r _ [54, 55, 15, 16, 17, 12, 18, 19, 20, 21, 22, 23, 24, 25, 26, 27, 28, 29, 30, 31, 32, 33, 34, 35, 36, 37, 38, 39, 40, 41, 42, 43, 44, 45, 309, 310, 311, 312, 313, 314, 315, 316, 317, 318, 319, 320, 321, 322, 323, 324, 325, 326, 327, 328] (by decide +kernel) (by decide +kernel)) (goodIn_sub (fun _ h => List.mem_cons_of_mem _ (List.mem_append_left _ (List.mem_append_left _ (List.mem_append_right _ h)))) (by decide +kernel))
set_option maxRecDepth 20000 in
theorem gL_isCleared_X1_paid : GoodIn wsL_isCleared (wsV RL 61 RX1 yX1_paid wsX1_paid) := goodIn_app (goodIn_of _ (by decide +kernel)) ggL_isCleared_X1_paid
set_option maxRecDepth 20000 in
theorem ggL_isCleared_L_does : GoodIn wsL_isCleared wsL_does := goodIn_ca (goodIn_ca (goodIn_ca (goodIn_r _ [222, 7, 223, 8, 224, 225, 226, 12, 227, 228, 150, 65, 66, 67, 19, 20, 229, 230, 231, 232, 233, 234, 235, 236, 237, 162, 163, 164, 165, 166, 167, 168, 238, 239, 240, 241, 242, 21, 243, 244, 85, 74, 23, 24, 25, 26, 27, 28, 203, 204, 205, 206, 207, 245, 246, 247, 248, 249, 250, 87, 89, 251, 252, 253, 254, 255, 256, 178, 88, 257, 258, 259, 260, 80, 81, 45, 261, 262, 263, 264, 106, 107, 108, 109, 110, 111, 112, 113, 114, 115, 116, 117, 118, 119, 120, 121, 122, 123, 124, 125, 126, 127, 128, 129, 130, 131, 132, 133, 134, 135, 136, 137, 138, 139, 140, 141, 142, 143, 144, 145, 99, 100, 101, 265, 266, 267, 268, 14, 173, 15, 16, 17, 18, 22, 29, 30, 31, 32, 33, 34, 35, 36, 37, 38, 39, 40, 41, 42, 43, 44, 269, 270, 271, 272, 50, 193, 194, 195, 196, 73, 152, 197, 198, 55, 60, 273, 274, 5, 275, 276, 277, 278, 279, 75, 280, 281, 282, 283, 284, 285, 286, 287, 288, 289, 290, 291, 292, 293, 294, 295, 296, 174, 175, 176, 177, 179, 180, 181, 182, 183, 297, 298, 299, 300, 301, 302, 303, 304, 305, 306, 307, 308, 319, 320, 321, 322, 323, 324, 325, 309, 310, 311, 312, 313, 314, 315, 316, 317, 318, 326, 327, 328] (by decide +kernel) (by decide +kernel)) (goodIn_sub (fun _ h => List.mem_cons_of_mem _ (List.mem_append_left _ (List.mem_append_left _ (List.mem_append_right _ h)))) (by decide +kernel))) (goodIn_sub (fun _ h => List.mem_cons_of_mem _ (List.mem_append_right _ h)) (by decide +kernel))) (goodIn_sub (fun _ h => List.mem_cons_of_mem _ (List.mem_append_left _ (List.mem_append_right _ h))) (by decide +kernel))
set_option maxRecDepth 20000 in
theorem gL_isCleared_L_does : GoodIn wsL_isCleared (va_wsS RL 106 yL_does wsL_does) := goodIn_app (goodIn_of _ (by decide +kernel)) ggL_isCleared_L_does
theorem dL_isCleared_0 : decode cL_isCleared 0 = .ok (.iload 5, 2) := by decide +kernel
theorem dL_isCleared_2 : decode cL_isCleared 2 = .ok (.iconst 4, 1) := by decide +kernel
theorem dL_isCleared_3 : decode cL_isCleared 3 = .ok (.if_icmp .ne 46, 3) := by decide +kernel
theorem dL_isCleared_6 : decode cL_isCleared 6 = .ok (.aload_n 0, 1) := by decide +kernel
theorem dL_isCleared_7 : decode cL_isCleared 7 = .ok (.iconst 4, 1) := by decide +kernel
theorem dL_isCleared_8 : decode cL_isCleared 8 = .ok (.iconst 4, 1) := by decide +kernel
theorem dL_isCleared_9 : decode cL_isCleared 9 = .ok (.iconst 0, 1) := by decide +kernel
theorem dL_isCleared_10 : decode cL_isCleared 10 = .ok (.invokestatic 94, 3) := by decide +kernel
theorem dL_isCleared_13 : decode cL_isCleared 13 = .ok (.ldc 82, 2) := by decide +kernel
theorem dL_isCleared_15 : decode cL_isCleared 15 = .ok (.if_icmp .ne 32, 3) := by decide +kernel
theorem dL_isCleared_18 : decode cL_isCleared 18 = .ok (.aload_n 0, 1) := by decide +kernel
theorem dL_isCleared_19 : decode cL_isCleared 19 = .ok (.iconst 5, 1) := by decide +kernel
theorem dL_isCleared_20 : decode cL_isCleared 20 = .ok (.iconst 4, 1) := by decide +kernel
theorem dL_isCleared_21 : decode cL_isCleared 21 = .ok (.iconst 0, 1) := by decide +kernel
theorem dL_isCleared_22 : decode cL_isCleared 22 = .ok (.invokestatic 94, 3) := by decide +kernel
theorem dL_isCleared_25 : decode cL_isCleared 25 = .ok (.ldc 82, 2) := by decide +kernel
theorem dL_isCleared_27 : decode cL_isCleared 27 = .ok (.if_icmp .ne 20, 3) := by decide +kernel
theorem dL_isCleared_30 : decode cL_isCleared 30 = .ok (.aload_n 0, 1) := by decide +kernel
theorem dL_isCleared_31 : decode cL_isCleared 31 = .ok (.bipush 6, 2) := by decide +kernel
theorem dL_isCleared_33 : decode cL_isCleared 33 = .ok (.iconst 4, 1) := by decide +kernel
theorem dL_isCleared_34 : decode cL_isCleared 34 = .ok (.iconst 0, 1) := by decide +kernel
theorem dL_isCleared_35 : decode cL_isCleared 35 = .ok (.invokestatic 94, 3) := by decide +kernel
theorem dL_isCleared_38 : decode cL_isCleared 38 = .ok (.ldc 82, 2) := by decide +kernel
theorem dL_isCleared_40 : decode cL_isCleared 40 = .ok (.if_icmp .ne 7, 3) := by decide +kernel
theorem dL_isCleared_43 : decode cL_isCleared 43 = .ok (.iconst 1, 1) := by decide +kernel
theorem dL_isCleared_44 : decode cL_isCleared 44 = .ok (.goto 4, 3) := by decide +kernel
theorem dL_isCleared_47 : decode cL_isCleared 47 = .ok (.iconst 0, 1) := by decide +kernel
theorem dL_isCleared_48 : decode cL_isCleared 48 = .ok (.ireturn, 1) := by decide +kernel
theorem dL_isCleared_49 : decode cL_isCleared 49 = .ok (.aload_n 0, 1) := by decide +kernel
theorem dL_isCleared_50 : decode cL_isCleared 50 = .ok (.iload 5, 2) := by decide +kernel
theorem dL_isCleared_52 : decode cL_isCleared 52 = .ok (.invokevirtual 67, 3) := by decide +kernel
theorem dL_isCleared_55 : decode cL_isCleared 55 = .ok (.istore 6, 2) := by decide +kernel
theorem dL_isCleared_57 : decode cL_isCleared 57 = .ok (.iconst 0, 1) := by decide +kernel
theorem dL_isCleared_58 : decode cL_isCleared 58 = .ok (.istore 7, 2) := by decide +kernel
theorem dL_isCleared_60 : decode cL_isCleared 60 = .ok (.iconst 0, 1) := by decide +kernel
theorem dL_isCleared_61 : decode cL_isCleared 61 = .ok (.istore 8, 2) := by decide +kernel
theorem dL_isCleared_63 : decode cL_isCleared 63 = .ok (.iload 8, 2) := by decide +kernel
theorem dL_isCleared_65 : decode cL_isCleared 65 = .ok (.aload 4, 2) := by decide +kernel
theorem dL_isCleared_67 : decode cL_isCleared 67 = .ok (.iconst 0, 1) := by decide +kernel
theorem dL_isCleared_68 : decode cL_isCleared 68 = .ok (.iaload, 1) := by decide +kernel
theorem dL_isCleared_69 : decode cL_isCleared 69 = .ok (.if_icmp .ge 51, 3) := by decide +kernel
theorem dL_isCleared_72 : decode cL_isCleared 72 = .ok (.iload 7, 2) := by decide +kernel
theorem dL_isCleared_74 : decode cL_isCleared 74 = .ok (.aload_n 1, 1) := by decide +kernel
theorem dL_isCleared_75 : decode cL_isCleared 75 = .ok (.iconst 2, 1) := by decide +kernel
theorem dL_isCleared_76 : decode cL_isCleared 76 = .ok (.iload 8, 2) := by decide +kernel
theorem dL_isCleared_78 : decode cL_isCleared 78 = .ok (.imul, 1) := by decide +kernel
theorem dL_isCleared_79 : decode cL_isCleared 79 = .ok (.iaload, 1) := by decide +kernel
theorem dL_isCleared_80 : decode cL_isCleared 80 = .ok (.bipush 8, 2) := by decide +kernel
theorem dL_isCleared_82 : decode cL_isCleared 82 = .ok (.idiv, 1) := by decide +kernel
theorem dL_isCleared_83 : decode cL_isCleared 83 = .ok (.iload 5, 2) := by decide +kernel
theorem dL_isCleared_85 : decode cL_isCleared 85 = .ok (.if_icmp .ne 25, 3) := by decide +kernel
theorem dL_isCleared_88 : decode cL_isCleared 88 = .ok (.aload_n 2, 1) := by decide +kernel
theorem dL_isCleared_89 : decode cL_isCleared 89 = .ok (.iload 8, 2) := by decide +kernel
theorem dL_isCleared_91 : decode cL_isCleared 91 = .ok (.iaload, 1) := by decide +kernel
theorem dL_isCleared_92 : decode cL_isCleared 92 = .ok (.iconst 1, 1) := by decide +kernel
theorem dL_isCleared_93 : decode cL_isCleared 93 = .ok (.if_icmp .ne 17, 3) := by decide +kernel
theorem dL_isCleared_96 : decode cL_isCleared 96 = .ok (.aload_n 2, 1) := by decide +kernel
theorem dL_isCleared_97 : decode cL_isCleared 97 = .ok (.bipush 30, 2) := by decide +kernel
theorem dL_isCleared_99 : decode cL_isCleared 99 = .ok (.iload 8, 2) := by decide +kernel
theorem dL_isCleared_101 : decode cL_isCleared 101 = .ok (.iadd, 1) := by decide +kernel
theorem dL_isCleared_102 : decode cL_isCleared 102 = .ok (.iaload, 1) := by decide +kernel
theorem dL_isCleared_103 : decode cL_isCleared 103 = .ok (.ifCond .lt 7, 3) := by decide +kernel
theorem dL_isCleared_106 : decode cL_isCleared 106 = .ok (.iconst 1, 1) := by decide +kernel
theorem dL_isCleared_107 : decode cL_isCleared 107 = .ok (.goto 4, 3) := by decide +kernel
theorem dL_isCleared_110 : decode cL_isCleared 110 = .ok (.iconst 0, 1) := by decide +kernel
theorem dL_isCleared_111 : decode cL_isCleared 111 = .ok (.iadd, 1) := by decide +kernel
theorem dL_isCleared_112 : decode cL_isCleared 112 = .ok (.istore 7, 2) := by decide +kernel
theorem dL_isCleared_114 : decode cL_isCleared 114 = .ok (.iinc 8 1, 3) := by decide +kernel
theorem dL_isCleared_117 : decode cL_isCleared 117 = .ok (.goto (-54), 3) := by decide +kernel
theorem dL_isCleared_120 : decode cL_isCleared 120 = .ok (.aload_n 0, 1) := by decide +kernel
theorem dL_isCleared_121 : decode cL_isCleared 121 = .ok (.bipush 6, 2) := by decide +kernel
theorem dL_isCleared_123 : decode cL_isCleared 123 = .ok (.iload 5, 2) := by decide +kernel
theorem dL_isCleared_125 : decode cL_isCleared 125 = .ok (.iconst 0, 1) := by decide +kernel
theorem dL_isCleared_126 : decode cL_isCleared 126 = .ok (.invokestatic 94, 3) := by decide +kernel
theorem dL_isCleared_129 : decode cL_isCleared 129 = .ok (.istore 8, 2) := by decide +kernel
theorem dL_isCleared_131 : decode cL_isCleared 131 = .ok (.aload_n 0, 1) := by decide +kernel
theorem dL_isCleared_132 : decode cL_isCleared 132 = .ok (.iload 5, 2) := by decide +kernel
theorem dL_isCleared_134 : decode cL_isCleared 134 = .ok (.invokevirtual 70, 3) := by decide +kernel
theorem dL_isCleared_137 : decode cL_isCleared 137 = .ok (.istore 9, 2) := by decide +kernel
theorem dL_isCleared_139 : decode cL_isCleared 139 = .ok (.iconst 0, 1) := by decide +kernel
theorem dL_isCleared_140 : decode cL_isCleared 140 = .ok (.istore 10, 2) := by decide +kernel
theorem dL_isCleared_142 : decode cL_isCleared 142 = .ok (.iconst 0, 1) := by decide +kernel
theorem dL_isCleared_143 : decode cL_isCleared 143 = .ok (.istore 11, 2) := by decide +kernel
theorem dL_isCleared_145 : decode cL_isCleared 145 = .ok (.iload 6, 2) := by decide +kernel
theorem dL_isCleared_147 : decode cL_isCleared 147 = .ok (.ifCond .lt 41, 3) := by decide +kernel
theorem dL_isCleared_150 : decode cL_isCleared 150 = .ok (.iload 6, 2) := by decide +kernel
