theorem dX5_temper_55 : decode cX5_temper 55 = .ok (.iload_n 2, 1) := by decide +kernel
theorem dX5_temper_56 : decode cX5_temper 56 = .ok (.invokestatic 254, 3) := by decide +kernel
theorem dX5_temper_59 : decode cX5_temper 59 = .ok (.putfield 251, 3) := by decide +kernel
theorem dX5_temper_62 : decode cX5_temper 62 = .ok (.aload_n 3, 1) := by decide +kernel
theorem dX5_temper_63 : decode cX5_temper 63 = .ok (.invokevirtual 257, 3) := by decide +kernel
theorem dX5_temper_66 : decode cX5_temper 66 = .ok (.ireturn, 1) := by decide +kernel
set_option maxRecDepth 20000 in
theorem ggX5_hardness_X5_billetAt : GoodIn wsX5_hardness wsX5_billetAt := goodIn_ca (goodIn_r _ [5, 6, 7, 8, 9, 10, 11, 12, 13, 14, 15, 16, 17, 18, 19, 20, 21, 22, 23, 24, 25, 26, 27, 28, 29, 30, 31, 32, 48, 49, 50, 51, 52, 53, 54, 55, 56, 57, 58] (by decide +kernel) (by decide +kernel)) (goodIn_sub (fun _ h => List.mem_cons_of_mem _ (List.mem_append_right _ h)) (by decide +kernel))
set_option maxRecDepth 20000 in
theorem gX5_hardness_X5_billetAt : GoodIn wsX5_hardness (wsV RX5 103 RX5 yX5_billetAt wsX5_billetAt) := goodIn_app (goodIn_of _ (by decide +kernel)) ggX5_hardness_X5_billetAt
set_option maxRecDepth 20000 in
theorem ggX5_hardness_X5_refuseNoSection : GoodIn wsX5_hardness wsX5_refuseNoSection := goodIn_ca (goodIn_r _ [35, 6, 7] (by decide +kernel) (by decide +kernel)) (goodIn_sub (fun _ h => List.mem_cons_of_mem _ (List.mem_append_right _ h)) (by decide +kernel))
set_option maxRecDepth 20000 in
theorem gX5_hardness_X5_refuseNoSection : GoodIn wsX5_hardness (va_wsS RX5 137 yX5_refuseNoSection wsX5_refuseNoSection) := goodIn_app (goodIn_of _ (by decide +kernel)) ggX5_hardness_X5_refuseNoSection
set_option maxRecDepth 20000 in
theorem ggX5_hardness_X0_hardnessAt : GoodIn wsX5_hardness wsX0_hardnessAt := goodIn_r _ [40, 41, 42, 43, 44, 45, 46, 47, 59, 60, 61, 62, 63, 64, 65, 66, 67, 68, 69, 70, 71, 72, 73, 74, 75, 76] (by decide +kernel) (by decide +kernel)
set_option maxRecDepth 20000 in
theorem gX5_hardness_X0_hardnessAt : GoodIn wsX5_hardness (wsV RX5 260 RX0 yX0_hardnessAt wsX0_hardnessAt) := goodIn_app (goodIn_of _ (by decide +kernel)) ggX5_hardness_X0_hardnessAt
theorem dX5_hardness_0 : decode cX5_hardness 0 = .ok (.aload_n 0, 1) := by decide +kernel
theorem dX5_hardness_1 : decode cX5_hardness 1 = .ok (.iload_n 1, 1) := by decide +kernel
theorem dX5_hardness_2 : decode cX5_hardness 2 = .ok (.invokevirtual 103, 3) := by decide +kernel
theorem dX5_hardness_5 : decode cX5_hardness 5 = .ok (.astore_n 3, 1) := by decide +kernel
theorem dX5_hardness_6 : decode cX5_hardness 6 = .ok (.iload_n 2, 1) := by decide +kernel
theorem dX5_hardness_7 : decode cX5_hardness 7 = .ok (.invokestatic 137, 3) := by decide +kernel
theorem dX5_hardness_10 : decode cX5_hardness 10 = .ok (.aload_n 3, 1) := by decide +kernel
theorem dX5_hardness_11 : decode cX5_hardness 11 = .ok (.iload_n 2, 1) := by decide +kernel
theorem dX5_hardness_12 : decode cX5_hardness 12 = .ok (.invokevirtual 260, 3) := by decide +kernel
theorem dX5_hardness_15 : decode cX5_hardness 15 = .ok (.ireturn, 1) := by decide +kernel
set_option maxRecDepth 20000 in
theorem ggX5_test_X5_billetAt : GoodIn wsX5_test wsX5_billetAt := goodIn_ca (goodIn_r _ [11, 12, 13, 14, 15, 16, 17, 18, 19, 20, 21, 22, 23, 24, 25, 26, 27, 28, 29, 30, 31, 32, 33, 34, 35, 36, 37, 38, 80, 81, 82, 83, 84, 85, 86, 87, 88, 89, 90] (by decide +kernel) (by decide +kernel)) (goodIn_sub (fun _ h => List.mem_cons_of_mem _ (List.mem_append_right _ h)) (by decide +kernel))
set_option maxRecDepth 20000 in
theorem gX5_test_X5_billetAt : GoodIn wsX5_test (wsV RX5 103 RX5 yX5_billetAt wsX5_billetAt) := goodIn_app (goodIn_of _ (by decide +kernel)) ggX5_test_X5_billetAt
set_option maxRecDepth 20000 in
theorem ggX5_test_X5_isLoad : GoodIn wsX5_test wsX5_isLoad := goodIn_r _ [42, 4, 80, 81, 82, 83, 84, 85, 86, 87] (by decide +kernel) (by decide +kernel)
set_option maxRecDepth 20000 in
theorem gX5_test_X5_isLoad : GoodIn wsX5_test (wsV RX5 246 RX5 yX5_isLoad wsX5_isLoad) := goodIn_app (goodIn_of _ (by decide +kernel)) ggX5_test_X5_isLoad
set_option maxRecDepth 20000 in
theorem ggX5_test_X0_leastHardness : GoodIn wsX5_test wsX0_leastHardness := goodIn_r _ [47, 48, 49, 50, 51, 52, 53, 54, 46, 55, 56, 57, 58, 59, 60, 61, 62, 63, 64, 65, 66, 67, 68, 69, 70, 71, 72, 73, 74, 75, 76, 77, 78, 79] (by decide +kernel) (by decide +kernel)
set_option maxRecDepth 20000 in
theorem gX5_test_X0_leastHardness : GoodIn wsX5_test (wsV RX5 257 RX0 yX0_leastHardness wsX0_leastHardness) := goodIn_app (goodIn_of _ (by decide +kernel)) ggX5_test_X0_leastHardness
theorem dX5_test_0 : decode cX5_test 0 = .ok (.aload_n 0, 1) := by decide +kernel
theorem dX5_test_1 : decode cX5_test 1 = .ok (.iload_n 1, 1) := by decide +kernel
theorem dX5_test_2 : decode cX5_test 2 = .ok (.invokevirtual 103, 3) := by decide +kernel
theorem dX5_test_5 : decode cX5_test 5 = .ok (.astore_n 2, 1) := by decide +kernel
theorem dX5_test_6 : decode cX5_test 6 = .ok (.aload_n 0, 1) := by decide +kernel
theorem dX5_test_7 : decode cX5_test 7 = .ok (.aload_n 2, 1) := by decide +kernel
theorem dX5_test_8 : decode cX5_test 8 = .ok (.getfield 132, 3) := by decide +kernel
theorem dX5_test_11 : decode cX5_test 11 = .ok (.invokevirtual 246, 3) := by decide +kernel
theorem dX5_test_14 : decode cX5_test 14 = .ok (.ifCond .ne 13, 3) := by decide +kernel
theorem dX5_test_17 : decode cX5_test 17 = .ok (.new 76, 3) := by decide +kernel
theorem dX5_test_20 : decode cX5_test 20 = .ok (.dup, 1) := by decide +kernel
theorem dX5_test_21 : decode cX5_test 21 = .ok (.ldc 249, 2) := by decide +kernel
theorem dX5_test_23 : decode cX5_test 23 = .ok (.invokespecial 80, 3) := by decide +kernel
theorem dX5_test_26 : decode cX5_test 26 = .ok (.athrow, 1) := by decide +kernel
theorem dX5_test_27 : decode cX5_test 27 = .ok (.aload_n 0, 1) := by decide +kernel
theorem dX5_test_28 : decode cX5_test 28 = .ok (.getfield 28, 3) := by decide +kernel
theorem dX5_test_31 : decode cX5_test 31 = .ok (.aload_n 2, 1) := by decide +kernel
theorem dX5_test_32 : decode cX5_test 32 = .ok (.getfield 132, 3) := by decide +kernel
theorem dX5_test_35 : decode cX5_test 35 = .ok (.dup2, 1) := by decide +kernel
theorem dX5_test_36 : decode cX5_test 36 = .ok (.iaload, 1) := by decide +kernel
theorem dX5_test_37 : decode cX5_test 37 = .ok (.iconst 1, 1) := by decide +kernel
theorem dX5_test_38 : decode cX5_test 38 = .ok (.aload_n 2, 1) := by decide +kernel
theorem dX5_test_39 : decode cX5_test 39 = .ok (.getfield 263, 3) := by decide +kernel
theorem dX5_test_42 : decode cX5_test 42 = .ok (.ishl, 1) := by decide +kernel
theorem dX5_test_43 : decode cX5_test 43 = .ok (.ior, 1) := by decide +kernel
theorem dX5_test_44 : decode cX5_test 44 = .ok (.iastore, 1) := by decide +kernel
theorem dX5_test_45 : decode cX5_test 45 = .ok (.aload_n 2, 1) := by decide +kernel
theorem dX5_test_46 : decode cX5_test 46 = .ok (.iconst 0, 1) := by decide +kernel
theorem dX5_test_47 : decode cX5_test 47 = .ok (.putfield 266, 3) := by decide +kernel
theorem dX5_test_50 : decode cX5_test 50 = .ok (.aload_n 2, 1) := by decide +kernel
theorem dX5_test_51 : decode cX5_test 51 = .ok (.invokevirtual 257, 3) := by decide +kernel
theorem dX5_test_54 : decode cX5_test 54 = .ok (.ireturn, 1) := by decide +kernel
set_option maxRecDepth 20000 in
theorem ggX5_paper_X5_billetAt : GoodIn wsX5_paper wsX5_billetAt := goodIn_ca (goodIn_r _ [13, 14, 15, 16, 17, 18, 19, 20, 21, 22, 23, 24, 25, 26, 27, 28, 29, 30, 31, 32, 33, 34, 35, 36, 37, 38, 39, 40, 82, 83, 84, 85, 86, 87, 88, 89, 90, 91, 92] (by decide +kernel) (by decide +kernel)) (goodIn_sub (fun _ h => List.mem_cons_of_mem _ (List.mem_append_right _ h)) (by decide +kernel))
set_option maxRecDepth 20000 in
theorem gX5_paper_X5_billetAt : GoodIn wsX5_paper (wsV RX5 103 RX5 yX5_billetAt wsX5_billetAt) := goodIn_app (goodIn_of _ (by decide +kernel)) ggX5_paper_X5_billetAt
set_option maxRecDepth 20000 in
theorem ggX5_paper_X5_isLoad : GoodIn wsX5_paper wsX5_isLoad := goodIn_r _ [44, 7, 82, 83, 84, 85, 86, 87, 88, 89] (by decide +kernel) (by decide +kernel)
set_option maxRecDepth 20000 in
theorem gX5_paper_X5_isLoad : GoodIn wsX5_paper (wsV RX5 246 RX5 yX5_isLoad wsX5_isLoad) := goodIn_app (goodIn_of _ (by decide +kernel)) ggX5_paper_X5_isLoad
set_option maxRecDepth 20000 in
theorem ggX5_paper_X0_leastHardness : GoodIn wsX5_paper wsX0_leastHardness := goodIn_r _ [49, 50, 51, 52, 53, 54, 55, 56, 48, 57, 58, 59, 60, 61, 62, 63, 64, 65, 66, 67, 68, 69, 70, 71, 72, 73, 74, 75, 76, 77, 78, 79, 80, 81] (by decide +kernel) (by decide +kernel)
set_option maxRecDepth 20000 in
theorem gX5_paper_X0_leastHardness : GoodIn wsX5_paper (wsV RX5 257 RX0 yX0_leastHardness wsX0_leastHardness) := goodIn_app (goodIn_of _ (by decide +kernel)) ggX5_paper_X0_leastHardness
theorem dX5_paper_0 : decode cX5_paper 0 = .ok (.aload_n 0, 1) := by decide +kernel
theorem dX5_paper_1 : decode cX5_paper 1 = .ok (.iload_n 1, 1) := by decide +kernel
theorem dX5_paper_2 : decode cX5_paper 2 = .ok (.invokevirtual 103, 3) := by decide +kernel
theorem dX5_paper_5 : decode cX5_paper 5 = .ok (.astore_n 3, 1) := by decide +kernel
theorem dX5_paper_6 : decode cX5_paper 6 = .ok (.iload_n 2, 1) := by decide +kernel
theorem dX5_paper_7 : decode cX5_paper 7 = .ok (.ifCond .lt 9, 3) := by decide +kernel
theorem dX5_paper_10 : decode cX5_paper 10 = .ok (.iload_n 2, 1) := by decide +kernel
theorem dX5_paper_11 : decode cX5_paper 11 = .ok (.bipush 70, 2) := by decide +kernel
theorem dX5_paper_13 : decode cX5_paper 13 = .ok (.if_icmp .le 14, 3) := by decide +kernel
theorem dX5_paper_16 : decode cX5_paper 16 = .ok (.new 51, 3) := by decide +kernel
theorem dX5_paper_19 : decode cX5_paper 19 = .ok (.dup, 1) := by decide +kernel
theorem dX5_paper_20 : decode cX5_paper 20 = .ok (.ldc_w 269, 3) := by decide +kernel
theorem dX5_paper_23 : decode cX5_paper 23 = .ok (.invokespecial 55, 3) := by decide +kernel
theorem dX5_paper_26 : decode cX5_paper 26 = .ok (.athrow, 1) := by decide +kernel
theorem dX5_paper_27 : decode cX5_paper 27 = .ok (.aload_n 3, 1) := by decide +kernel
theorem dX5_paper_28 : decode cX5_paper 28 = .ok (.getfield 266, 3) := by decide +kernel
theorem dX5_paper_31 : decode cX5_paper 31 = .ok (.ifCond .eq 28, 3) := by decide +kernel
theorem dX5_paper_34 : decode cX5_paper 34 = .ok (.aload_n 3, 1) := by decide +kernel
theorem dX5_paper_35 : decode cX5_paper 35 = .ok (.getfield 125, 3) := by decide +kernel
theorem dX5_paper_38 : decode cX5_paper 38 = .ok (.ifCond .ne 21, 3) := by decide +kernel
theorem dX5_paper_41 : decode cX5_paper 41 = .ok (.aload_n 3, 1) := by decide +kernel
theorem dX5_paper_42 : decode cX5_paper 42 = .ok (.getfield 122, 3) := by decide +kernel
theorem dX5_paper_45 : decode cX5_paper 45 = .ok (.ifCond .gt 14, 3) := by decide +kernel
theorem dX5_paper_48 : decode cX5_paper 48 = .ok (.aload_n 0, 1) := by decide +kernel
theorem dX5_paper_49 : decode cX5_paper 49 = .ok (.aload_n 3, 1) := by decide +kernel
theorem dX5_paper_50 : decode cX5_paper 50 = .ok (.getfield 132, 3) := by decide +kernel
theorem dX5_paper_53 : decode cX5_paper 53 = .ok (.invokevirtual 246, 3) := by decide +kernel
theorem dX5_paper_56 : decode cX5_paper 56 = .ok (.ifCond .ne 5, 3) := by decide +kernel
theorem dX5_paper_59 : decode cX5_paper 59 = .ok (.iconst (-1), 1) := by decide +kernel
theorem dX5_paper_60 : decode cX5_paper 60 = .ok (.ireturn, 1) := by decide +kernel
theorem dX5_paper_61 : decode cX5_paper 61 = .ok (.aload_n 0, 1) := by decide +kernel
theorem dX5_paper_62 : decode cX5_paper 62 = .ok (.getfield 28, 3) := by decide +kernel
theorem dX5_paper_65 : decode cX5_paper 65 = .ok (.aload_n 3, 1) := by decide +kernel
theorem dX5_paper_66 : decode cX5_paper 66 = .ok (.getfield 132, 3) := by decide +kernel
theorem dX5_paper_69 : decode cX5_paper 69 = .ok (.iaload, 1) := by decide +kernel
theorem dX5_paper_70 : decode cX5_paper 70 = .ok (.iconst 1, 1) := by decide +kernel
theorem dX5_paper_71 : decode cX5_paper 71 = .ok (.aload_n 3, 1) := by decide +kernel
theorem dX5_paper_72 : decode cX5_paper 72 = .ok (.getfield 263, 3) := by decide +kernel
theorem dX5_paper_75 : decode cX5_paper 75 = .ok (.ishl, 1) := by decide +kernel
theorem dX5_paper_76 : decode cX5_paper 76 = .ok (.iand, 1) := by decide +kernel
theorem dX5_paper_77 : decode cX5_paper 77 = .ok (.ifCond .eq 7, 3) := by decide +kernel
theorem dX5_paper_80 : decode cX5_paper 80 = .ok (.iconst 1, 1) := by decide +kernel
theorem dX5_paper_81 : decode cX5_paper 81 = .ok (.goto 4, 3) := by decide +kernel
theorem dX5_paper_84 : decode cX5_paper 84 = .ok (.iconst 0, 1) := by decide +kernel
theorem dX5_paper_85 : decode cX5_paper 85 = .ok (.istore 4, 2) := by decide +kernel
theorem dX5_paper_87 : decode cX5_paper 87 = .ok (.iload 4, 2) := by decide +kernel
theorem dX5_paper_89 : decode cX5_paper 89 = .ok (.ifCond .eq 18, 3) := by decide +kernel
theorem dX5_paper_92 : decode cX5_paper 92 = .ok (.aload_n 3, 1) := by decide +kernel
theorem dX5_paper_93 : decode cX5_paper 93 = .ok (.invokevirtual 257, 3) := by decide +kernel
theorem dX5_paper_96 : decode cX5_paper 96 = .ok (.iload_n 2, 1) := by decide +kernel
theorem dX5_paper_97 : decode cX5_paper 97 = .ok (.if_icmp .lt 10, 3) := by decide +kernel
theorem dX5_paper_100 : decode cX5_paper 100 = .ok (.aload_n 3, 1) := by decide +kernel
theorem dX5_paper_101 : decode cX5_paper 101 = .ok (.getfield 263, 3) := by decide +kernel
theorem dX5_paper_104 : decode cX5_paper 104 = .ok (.goto 4, 3) := by decide +kernel
theorem dX5_paper_107 : decode cX5_paper 107 = .ok (.iconst (-1), 1) := by decide +kernel
theorem dX5_paper_108 : decode cX5_paper 108 = .ok (.ireturn, 1) := by decide +kernel
set_option maxRecDepth 20000 in
theorem ggX5_layer_X5_billetAt : GoodIn wsX5_layer wsX5_billetAt := goodIn_ca (goodIn_r _ [11, 12, 13, 14, 15, 16, 17, 18, 19, 20, 21, 22, 23, 24, 25, 26, 27, 28, 29, 30, 31, 32, 33, 34, 35, 36, 37, 38, 64, 65, 66, 67, 68, 69, 70, 71, 72, 73, 74] (by decide +kernel) (by decide +kernel)) (goodIn_sub (fun _ h => List.mem_cons_of_mem _ (List.mem_append_right _ h)) (by decide +kernel))
set_option maxRecDepth 20000 in
theorem gX5_layer_X5_billetAt : GoodIn wsX5_layer (wsV RX5 103 RX5 yX5_billetAt wsX5_billetAt) := goodIn_app (goodIn_of _ (by decide +kernel)) ggX5_layer_X5_billetAt
set_option maxRecDepth 20000 in
theorem ggX5_layer_X2_behind : GoodIn wsX5_layer wsX2_behind := goodIn_r _ [42, 43, 44, 41, 45] (by decide +kernel) (by decide +kernel)
set_option maxRecDepth 20000 in
theorem gX5_layer_X2_behind : GoodIn wsX5_layer (va_wsS RX5 275 yX2_behind wsX2_behind) := goodIn_app (goodIn_of _ (by decide +kernel)) ggX5_layer_X2_behind
theorem dX5_layer_0 : decode cX5_layer 0 = .ok (.aload_n 0, 1) := by decide +kernel
theorem dX5_layer_1 : decode cX5_layer 1 = .ok (.iload_n 1, 1) := by decide +kernel
theorem dX5_layer_2 : decode cX5_layer 2 = .ok (.invokevirtual 103, 3) := by decide +kernel
theorem dX5_layer_5 : decode cX5_layer 5 = .ok (.astore_n 3, 1) := by decide +kernel
theorem dX5_layer_6 : decode cX5_layer 6 = .ok (.iload_n 2, 1) := by decide +kernel
theorem dX5_layer_7 : decode cX5_layer 7 = .ok (.ifCond .lt 8, 3) := by decide +kernel
theorem dX5_layer_10 : decode cX5_layer 10 = .ok (.iload_n 2, 1) := by decide +kernel
theorem dX5_layer_11 : decode cX5_layer 11 = .ok (.iconst 2, 1) := by decide +kernel
theorem dX5_layer_12 : decode cX5_layer 12 = .ok (.if_icmp .le 14, 3) := by decide +kernel
theorem dX5_layer_15 : decode cX5_layer 15 = .ok (.new 51, 3) := by decide +kernel
theorem dX5_layer_18 : decode cX5_layer 18 = .ok (.dup, 1) := by decide +kernel
theorem dX5_layer_19 : decode cX5_layer 19 = .ok (.ldc_w 271, 3) := by decide +kernel
theorem dX5_layer_22 : decode cX5_layer 22 = .ok (.invokespecial 55, 3) := by decide +kernel
theorem dX5_layer_25 : decode cX5_layer 25 = .ok (.athrow, 1) := by decide +kernel
theorem dX5_layer_26 : decode cX5_layer 26 = .ok (.aload_n 3, 1) := by decide +kernel
theorem dX5_layer_27 : decode cX5_layer 27 = .ok (.getfield 110, 3) := by decide +kernel
theorem dX5_layer_30 : decode cX5_layer 30 = .ok (.sipush 900, 3) := by decide +kernel
theorem dX5_layer_33 : decode cX5_layer 33 = .ok (.if_icmp .ge 14, 3) := by decide +kernel
theorem dX5_layer_36 : decode cX5_layer 36 = .ok (.new 76, 3) := by decide +kernel
theorem dX5_layer_39 : decode cX5_layer 39 = .ok (.dup, 1) := by decide +kernel
theorem dX5_layer_40 : decode cX5_layer 40 = .ok (.ldc_w 273, 3) := by decide +kernel
theorem dX5_layer_43 : decode cX5_layer 43 = .ok (.invokespecial 80, 3) := by decide +kernel
theorem dX5_layer_46 : decode cX5_layer 46 = .ok (.athrow, 1) := by decide +kernel
theorem dX5_layer_47 : decode cX5_layer 47 = .ok (.aload_n 3, 1) := by decide +kernel
theorem dX5_layer_48 : decode cX5_layer 48 = .ok (.aload_n 3, 1) := by decide +kernel
theorem dX5_layer_49 : decode cX5_layer 49 = .ok (.getfield 129, 3) := by decide +kernel
theorem dX5_layer_52 : decode cX5_layer 52 = .ok (.iload_n 2, 1) := by decide +kernel
theorem dX5_layer_53 : decode cX5_layer 53 = .ok (.invokestatic 275, 3) := by decide +kernel
theorem dX5_layer_56 : decode cX5_layer 56 = .ok (.putfield 129, 3) := by decide +kernel
theorem dX5_layer_59 : decode cX5_layer 59 = .ok (.aload_n 3, 1) := by decide +kernel
theorem dX5_layer_60 : decode cX5_layer 60 = .ok (.getfield 129, 3) := by decide +kernel
theorem dX5_layer_63 : decode cX5_layer 63 = .ok (.ireturn, 1) := by decide +kernel
set_option maxRecDepth 20000 in
theorem ggX5_fewest_X5_billetAt : GoodIn wsX5_fewest wsX5_billetAt := goodIn_ca (goodIn_r _ [8, 9, 10, 11, 12, 13, 14, 15, 16, 17, 18, 19, 20, 21, 22, 23, 24, 25, 26, 27, 28, 29, 30, 31, 32, 33, 34, 35, 59, 60, 61, 62, 63, 64, 65, 66, 88, 89, 90] (by decide +kernel) (by decide +kernel)) (goodIn_sub (fun _ h => List.mem_cons_of_mem _ (List.mem_append_left _ (List.mem_append_right _ h))) (by decide +kernel))
set_option maxRecDepth 20000 in
theorem gX5_fewest_X5_billetAt : GoodIn wsX5_fewest (wsV RX5 103 RX5 yX5_billetAt wsX5_billetAt) := goodIn_app (goodIn_of _ (by decide +kernel)) ggX5_fewest_X5_billetAt
set_option maxRecDepth 20000 in
theorem ggX5_fewest_X5_refuseNoPattern : GoodIn wsX5_fewest wsX5_refuseNoPattern := goodIn_ca (goodIn_r _ [38, 39, 40] (by decide +kernel) (by decide +kernel)) (goodIn_sub (fun _ h => List.mem_cons_of_mem _ (List.mem_append_right _ h)) (by decide +kernel))
set_option maxRecDepth 20000 in
theorem gX5_fewest_X5_refuseNoPattern : GoodIn wsX5_fewest (va_wsS RX5 278 yX5_refuseNoPattern wsX5_refuseNoPattern) := goodIn_app (goodIn_of _ (by decide +kernel)) ggX5_fewest_X5_refuseNoPattern
set_option maxRecDepth 20000 in
theorem ggX5_fewest_X2_exploreFrom : GoodIn wsX5_fewest wsX2_exploreFrom := goodIn_r _ [45, 46, 47, 48, 49, 50, 51, 52, 53, 54, 44, 55, 56, 57, 58, 85, 86, 87] (by decide +kernel) (by decide +kernel)
set_option maxRecDepth 20000 in
theorem gX5_fewest_X2_exploreFrom : GoodIn wsX5_fewest (wsV RX5 281 RX2 yX2_exploreFrom wsX2_exploreFrom) := goodIn_app (goodIn_of _ (by decide +kernel)) ggX5_fewest_X2_exploreFrom
theorem dX5_fewest_0 : decode cX5_fewest 0 = .ok (.aload_n 0, 1) := by decide +kernel
theorem dX5_fewest_1 : decode cX5_fewest 1 = .ok (.iload_n 1, 1) := by decide +kernel
theorem dX5_fewest_2 : decode cX5_fewest 2 = .ok (.invokevirtual 103, 3) := by decide +kernel
theorem dX5_fewest_5 : decode cX5_fewest 5 = .ok (.astore_n 3, 1) := by decide +kernel
theorem dX5_fewest_6 : decode cX5_fewest 6 = .ok (.iload_n 2, 1) := by decide +kernel
theorem dX5_fewest_7 : decode cX5_fewest 7 = .ok (.invokestatic 278, 3) := by decide +kernel
theorem dX5_fewest_10 : decode cX5_fewest 10 = .ok (.aload_n 0, 1) := by decide +kernel
theorem dX5_fewest_11 : decode cX5_fewest 11 = .ok (.getfield 35, 3) := by decide +kernel
theorem dX5_fewest_14 : decode cX5_fewest 14 = .ok (.aload_n 3, 1) := by decide +kernel
theorem dX5_fewest_15 : decode cX5_fewest 15 = .ok (.getfield 129, 3) := by decide +kernel
theorem dX5_fewest_18 : decode cX5_fewest 18 = .ok (.invokevirtual 281, 3) := by decide +kernel
theorem dX5_fewest_21 : decode cX5_fewest 21 = .ok (.aload_n 0, 1) := by decide +kernel
theorem dX5_fewest_22 : decode cX5_fewest 22 = .ok (.getfield 35, 3) := by decide +kernel
theorem dX5_fewest_25 : decode cX5_fewest 25 = .ok (.getfield 284, 3) := by decide +kernel
theorem dX5_fewest_28 : decode cX5_fewest 28 = .ok (.iload_n 2, 1) := by decide +kernel
theorem dX5_fewest_29 : decode cX5_fewest 29 = .ok (.iaload, 1) := by decide +kernel
theorem dX5_fewest_30 : decode cX5_fewest 30 = .ok (.ireturn, 1) := by decide +kernel
set_option maxRecDepth 20000 in
theorem ggX5_first_X5_billetAt : GoodIn wsX5_first wsX5_billetAt := goodIn_ca (goodIn_r _ [8, 9, 10, 11, 12, 13, 14, 15, 16, 17, 18, 19, 20, 21, 22, 23, 24, 25, 26, 27, 28, 29, 30, 31, 32, 33, 34, 35, 59, 60, 61, 62, 63, 64, 65, 66, 88, 89, 90] (by decide +kernel) (by decide +kernel)) (goodIn_sub (fun _ h => List.mem_cons_of_mem _ (List.mem_append_left _ (List.mem_append_right _ h))) (by decide +kernel))
set_option maxRecDepth 20000 in
theorem gX5_first_X5_billetAt : GoodIn wsX5_first (wsV RX5 103 RX5 yX5_billetAt wsX5_billetAt) := goodIn_app (goodIn_of _ (by decide +kernel)) ggX5_first_X5_billetAt
set_option maxRecDepth 20000 in
theorem ggX5_first_X5_refuseNoPattern : GoodIn wsX5_first wsX5_refuseNoPattern := goodIn_ca (goodIn_r _ [38, 39, 40] (by decide +kernel) (by decide +kernel)) (goodIn_sub (fun _ h => List.mem_cons_of_mem _ (List.mem_append_right _ h)) (by decide +kernel))
set_option maxRecDepth 20000 in
theorem gX5_first_X5_refuseNoPattern : GoodIn wsX5_first (va_wsS RX5 278 yX5_refuseNoPattern wsX5_refuseNoPattern) := goodIn_app (goodIn_of _ (by decide +kernel)) ggX5_first_X5_refuseNoPattern
set_option maxRecDepth 20000 in
theorem ggX5_first_X2_exploreFrom : GoodIn wsX5_first wsX2_exploreFrom := goodIn_r _ [45, 46, 47, 48, 49, 50, 51, 52, 53, 54, 44, 55, 56, 57, 58, 85, 86, 87] (by decide +kernel) (by decide +kernel)
set_option maxRecDepth 20000 in
theorem gX5_first_X2_exploreFrom : GoodIn wsX5_first (wsV RX5 281 RX2 yX2_exploreFrom wsX2_exploreFrom) := goodIn_app (goodIn_of _ (by decide +kernel)) ggX5_first_X2_exploreFrom
theorem dX5_first_0 : decode cX5_first 0 = .ok (.aload_n 0, 1) := by decide +kernel
theorem dX5_first_1 : decode cX5_first 1 = .ok (.iload_n 1, 1) := by decide +kernel
theorem dX5_first_2 : decode cX5_first 2 = .ok (.invokevirtual 103, 3) := by decide +kernel
theorem dX5_first_5 : decode cX5_first 5 = .ok (.astore_n 3, 1) := by decide +kernel
theorem dX5_first_6 : decode cX5_first 6 = .ok (.iload_n 2, 1) := by decide +kernel
theorem dX5_first_7 : decode cX5_first 7 = .ok (.invokestatic 278, 3) := by decide +kernel
theorem dX5_first_10 : decode cX5_first 10 = .ok (.aload_n 0, 1) := by decide +kernel
theorem dX5_first_11 : decode cX5_first 11 = .ok (.getfield 35, 3) := by decide +kernel
theorem dX5_first_14 : decode cX5_first 14 = .ok (.aload_n 3, 1) := by decide +kernel
theorem dX5_first_15 : decode cX5_first 15 = .ok (.getfield 129, 3) := by decide +kernel
theorem dX5_first_18 : decode cX5_first 18 = .ok (.invokevirtual 281, 3) := by decide +kernel
theorem dX5_first_21 : decode cX5_first 21 = .ok (.aload_n 0, 1) := by decide +kernel
theorem dX5_first_22 : decode cX5_first 22 = .ok (.getfield 35, 3) := by decide +kernel
theorem dX5_first_25 : decode cX5_first 25 = .ok (.getfield 287, 3) := by decide +kernel
theorem dX5_first_28 : decode cX5_first 28 = .ok (.iload_n 2, 1) := by decide +kernel
theorem dX5_first_29 : decode cX5_first 29 = .ok (.iaload, 1) := by decide +kernel
theorem dX5_first_30 : decode cX5_first 30 = .ok (.ireturn, 1) := by decide +kernel
set_option maxRecDepth 20000 in
theorem ggX5_job_X3_add : GoodIn wsX5_job wsX3_add := goodIn_r _ [11, 12, 13, 22, 23, 24] (by decide +kernel) (by decide +kernel)
set_option maxRecDepth 20000 in
theorem gX5_job_X3_add : GoodIn wsX5_job (wsV RX5 297 RX3 yX3_add wsX3_add) := goodIn_app (goodIn_of _ (by decide +kernel)) ggX5_job_X3_add
theorem dX5_job_0 : decode cX5_job 0 = .ok (.iload_n 1, 1) := by decide +kernel
theorem dX5_job_1 : decode cX5_job 1 = .ok (.sipush 200, 3) := by decide +kernel
theorem dX5_job_4 : decode cX5_job 4 = .ok (.if_icmp .lt 10, 3) := by decide +kernel
theorem dX5_job_7 : decode cX5_job 7 = .ok (.iload_n 1, 1) := by decide +kernel
theorem dX5_job_8 : decode cX5_job 8 = .ok (.sipush 1300, 3) := by decide +kernel
theorem dX5_job_11 : decode cX5_job 11 = .ok (.if_icmp .le 14, 3) := by decide +kernel
theorem dX5_job_14 : decode cX5_job 14 = .ok (.new 51, 3) := by decide +kernel
theorem dX5_job_17 : decode cX5_job 17 = .ok (.dup, 1) := by decide +kernel
theorem dX5_job_18 : decode cX5_job 18 = .ok (.ldc_w 290, 3) := by decide +kernel
theorem dX5_job_21 : decode cX5_job 21 = .ok (.invokespecial 55, 3) := by decide +kernel
theorem dX5_job_24 : decode cX5_job 24 = .ok (.athrow, 1) := by decide +kernel
theorem dX5_job_25 : decode cX5_job 25 = .ok (.aload_n 0, 1) := by decide +kernel
theorem dX5_job_26 : decode cX5_job 26 = .ok (.getfield 42, 3) := by decide +kernel
theorem dX5_job_29 : decode cX5_job 29 = .ok (.getfield 292, 3) := by decide +kernel
theorem dX5_job_32 : decode cX5_job 32 = .ok (.bipush 12, 2) := by decide +kernel
theorem dX5_job_34 : decode cX5_job 34 = .ok (.if_icmp .lt 14, 3) := by decide +kernel
theorem dX5_job_37 : decode cX5_job 37 = .ok (.new 76, 3) := by decide +kernel
theorem dX5_job_40 : decode cX5_job 40 = .ok (.dup, 1) := by decide +kernel
theorem dX5_job_41 : decode cX5_job 41 = .ok (.ldc_w 295, 3) := by decide +kernel
theorem dX5_job_44 : decode cX5_job 44 = .ok (.invokespecial 80, 3) := by decide +kernel
theorem dX5_job_47 : decode cX5_job 47 = .ok (.athrow, 1) := by decide +kernel
theorem dX5_job_48 : decode cX5_job 48 = .ok (.aload_n 0, 1) := by decide +kernel
theorem dX5_job_49 : decode cX5_job 49 = .ok (.getfield 42, 3) := by decide +kernel
theorem dX5_job_52 : decode cX5_job 52 = .ok (.iload_n 1, 1) := by decide +kernel
theorem dX5_job_53 : decode cX5_job 53 = .ok (.invokevirtual 297, 3) := by decide +kernel
theorem dX5_job_56 : decode cX5_job 56 = .ok (.aload_n 0, 1) := by decide +kernel
theorem dX5_job_57 : decode cX5_job 57 = .ok (.getfield 42, 3) := by decide +kernel
theorem dX5_job_60 : decode cX5_job 60 = .ok (.getfield 292, 3) := by decide +kernel
theorem dX5_job_63 : decode cX5_job 63 = .ok (.ireturn, 1) := by decide +kernel
set_option maxRecDepth 20000 in
theorem ggX5_planned_X3_warmthAt : GoodIn wsX5_planned wsX3_warmthAt := goodIn_r _ [8, 9, 10, 11, 12, 13, 7, 14, 15, 16, 17, 18, 19, 20, 21, 22, 23, 32, 33, 34] (by decide +kernel) (by decide +kernel)
set_option maxRecDepth 20000 in
theorem gX5_planned_X3_warmthAt : GoodIn wsX5_planned (wsV RX5 301 RX3 yX3_warmthAt wsX3_warmthAt) := goodIn_app (goodIn_of _ (by decide +kernel)) ggX5_planned_X3_warmthAt
theorem dX5_planned_0 : decode cX5_planned 0 = .ok (.iload_n 1, 1) := by decide +kernel
theorem dX5_planned_1 : decode cX5_planned 1 = .ok (.ifCond .ge 14, 3) := by decide +kernel
theorem dX5_planned_4 : decode cX5_planned 4 = .ok (.new 51, 3) := by decide +kernel
theorem dX5_planned_7 : decode cX5_planned 7 = .ok (.dup, 1) := by decide +kernel
theorem dX5_planned_8 : decode cX5_planned 8 = .ok (.ldc_w 299, 3) := by decide +kernel
theorem dX5_planned_11 : decode cX5_planned 11 = .ok (.invokespecial 55, 3) := by decide +kernel
theorem dX5_planned_14 : decode cX5_planned 14 = .ok (.athrow, 1) := by decide +kernel
theorem dX5_planned_15 : decode cX5_planned 15 = .ok (.aload_n 0, 1) := by decide +kernel
theorem dX5_planned_16 : decode cX5_planned 16 = .ok (.getfield 42, 3) := by decide +kernel
theorem dX5_planned_19 : decode cX5_planned 19 = .ok (.iload_n 1, 1) := by decide +kernel
theorem dX5_planned_20 : decode cX5_planned 20 = .ok (.invokevirtual 301, 3) := by decide +kernel
theorem dX5_planned_23 : decode cX5_planned 23 = .ok (.ireturn, 1) := by decide +kernel
set_option maxRecDepth 20000 in
theorem ggX5_run_X3_carryOut : GoodIn wsX5_run wsX3_carryOut := goodIn_r _ [6, 7, 8, 9, 10, 11, 12, 13, 14, 15, 5, 16, 17, 18, 19, 20, 21, 22, 23, 24, 25, 34, 35, 36] (by decide +kernel) (by decide +kernel)
set_option maxRecDepth 20000 in
theorem gX5_run_X3_carryOut : GoodIn wsX5_run (wsV RX5 304 RX3 yX3_carryOut wsX3_carryOut) := goodIn_app (goodIn_of _ (by decide +kernel)) ggX5_run_X3_carryOut
theorem dX5_run_0 : decode cX5_run 0 = .ok (.aload_n 0, 1) := by decide +kernel
theorem dX5_run_1 : decode cX5_run 1 = .ok (.getfield 42, 3) := by decide +kernel
theorem dX5_run_4 : decode cX5_run 4 = .ok (.invokevirtual 304, 3) := by decide +kernel
theorem dX5_run_7 : decode cX5_run 7 = .ok (.ireturn, 1) := by decide +kernel
theorem dX5_steelAt_0 : decode cX5_steelAt 0 = .ok (.iload_n 1, 1) := by decide +kernel
theorem dX5_steelAt_1 : decode cX5_steelAt 1 = .ok (.ifCond .lt 8, 3) := by decide +kernel
theorem dX5_steelAt_4 : decode cX5_steelAt 4 = .ok (.iload_n 1, 1) := by decide +kernel
theorem dX5_steelAt_5 : decode cX5_steelAt 5 = .ok (.iconst 4, 1) := by decide +kernel
theorem dX5_steelAt_6 : decode cX5_steelAt 6 = .ok (.if_icmp .lt 14, 3) := by decide +kernel
theorem dX5_steelAt_9 : decode cX5_steelAt 9 = .ok (.new 85, 3) := by decide +kernel
theorem dX5_steelAt_12 : decode cX5_steelAt 12 = .ok (.dup, 1) := by decide +kernel
theorem dX5_steelAt_13 : decode cX5_steelAt 13 = .ok (.ldc_w 307, 3) := by decide +kernel
theorem dX5_steelAt_16 : decode cX5_steelAt 16 = .ok (.invokespecial 89, 3) := by decide +kernel
theorem dX5_steelAt_19 : decode cX5_steelAt 19 = .ok (.athrow, 1) := by decide +kernel
theorem dX5_steelAt_20 : decode cX5_steelAt 20 = .ok (.aload_n 0, 1) := by decide +kernel
theorem dX5_steelAt_21 : decode cX5_steelAt 21 = .ok (.getfield 11, 3) := by decide +kernel
theorem dX5_steelAt_24 : decode cX5_steelAt 24 = .ok (.iload_n 1, 1) := by decide +kernel
theorem dX5_steelAt_25 : decode cX5_steelAt 25 = .ok (.aaload, 1) := by decide +kernel
theorem dX5_steelAt_26 : decode cX5_steelAt 26 = .ok (.areturn, 1) := by decide +kernel
set_option maxRecDepth 20000 in
theorem ggX5_billetAt_Jx4a65c_size_8abf5 : GoodIn wsX5_billetAt wsJx4a65c_size_8abf5 := goodIn_r _ [9, 10, 36, 37, 38] (by decide +kernel) (by decide +kernel)
set_option maxRecDepth 20000 in
theorem gX5_billetAt_Jx4a65c_size_8abf5 : GoodIn wsX5_billetAt (wsV RX5 72 RJx4a65c yJx4a65c_size_8abf5 wsJx4a65c_size_8abf5) := goodIn_app (goodIn_of _ (by decide +kernel)) ggX5_billetAt_Jx4a65c_size_8abf5
set_option maxRecDepth 20000 in
theorem ggX5_billetAt_Jx4a65c_get_915e3 : GoodIn wsX5_billetAt wsJx4a65c_get_915e3 := goodIn_r _ [14, 10, 15, 16, 17, 18, 19, 20, 21, 22, 23, 24, 25, 8, 26, 27, 36, 37, 38] (by decide +kernel) (by decide +kernel)
set_option maxRecDepth 20000 in
theorem gX5_billetAt_Jx4a65c_get_915e3 : GoodIn wsX5_billetAt (wsV RX5 96 RJx4a65c yJx4a65c_get_915e3 wsJx4a65c_get_915e3) := goodIn_app (goodIn_of _ (by decide +kernel)) ggX5_billetAt_Jx4a65c_get_915e3
theorem dX5_billetAt_0 : decode cX5_billetAt 0 = .ok (.iload_n 1, 1) := by decide +kernel
theorem dX5_billetAt_1 : decode cX5_billetAt 1 = .ok (.ifCond .lt 14, 3) := by decide +kernel
theorem dX5_billetAt_4 : decode cX5_billetAt 4 = .ok (.iload_n 1, 1) := by decide +kernel
theorem dX5_billetAt_5 : decode cX5_billetAt 5 = .ok (.aload_n 0, 1) := by decide +kernel
theorem dX5_billetAt_6 : decode cX5_billetAt 6 = .ok (.getfield 22, 3) := by decide +kernel
theorem dX5_billetAt_9 : decode cX5_billetAt 9 = .ok (.invokevirtual 72, 3) := by decide +kernel
theorem dX5_billetAt_12 : decode cX5_billetAt 12 = .ok (.if_icmp .lt 14, 3) := by decide +kernel
theorem dX5_billetAt_15 : decode cX5_billetAt 15 = .ok (.new 85, 3) := by decide +kernel
theorem dX5_billetAt_18 : decode cX5_billetAt 18 = .ok (.dup, 1) := by decide +kernel
theorem dX5_billetAt_19 : decode cX5_billetAt 19 = .ok (.ldc_w 309, 3) := by decide +kernel
theorem dX5_billetAt_22 : decode cX5_billetAt 22 = .ok (.invokespecial 89, 3) := by decide +kernel
theorem dX5_billetAt_25 : decode cX5_billetAt 25 = .ok (.athrow, 1) := by decide +kernel
theorem dX5_billetAt_26 : decode cX5_billetAt 26 = .ok (.aload_n 0, 1) := by decide +kernel
theorem dX5_billetAt_27 : decode cX5_billetAt 27 = .ok (.getfield 22, 3) := by decide +kernel
theorem dX5_billetAt_30 : decode cX5_billetAt 30 = .ok (.iload_n 1, 1) := by decide +kernel
theorem dX5_billetAt_31 : decode cX5_billetAt 31 = .ok (.invokevirtual 96, 3) := by decide +kernel
theorem dX5_billetAt_34 : decode cX5_billetAt 34 = .ok (.checkcast 94, 3) := by decide +kernel
theorem dX5_billetAt_37 : decode cX5_billetAt 37 = .ok (.areturn, 1) := by decide +kernel
set_option maxRecDepth 20000 in
theorem ggX5_dieAt_Jx4a65c_size_8abf5 : GoodIn wsX5_dieAt wsJx4a65c_size_8abf5 := goodIn_r _ [9, 10, 36, 37, 38] (by decide +kernel) (by decide +kernel)
set_option maxRecDepth 20000 in
theorem gX5_dieAt_Jx4a65c_size_8abf5 : GoodIn wsX5_dieAt (wsV RX5 72 RJx4a65c yJx4a65c_size_8abf5 wsJx4a65c_size_8abf5) := goodIn_app (goodIn_of _ (by decide +kernel)) ggX5_dieAt_Jx4a65c_size_8abf5
set_option maxRecDepth 20000 in
theorem ggX5_dieAt_Jx4a65c_get_915e3 : GoodIn wsX5_dieAt wsJx4a65c_get_915e3 := goodIn_r _ [14, 10, 15, 16, 17, 18, 19, 20, 21, 22, 23, 24, 25, 8, 26, 27, 36, 37, 38] (by decide +kernel) (by decide +kernel)
set_option maxRecDepth 20000 in
theorem gX5_dieAt_Jx4a65c_get_915e3 : GoodIn wsX5_dieAt (wsV RX5 96 RJx4a65c yJx4a65c_get_915e3 wsJx4a65c_get_915e3) := goodIn_app (goodIn_of _ (by decide +kernel)) ggX5_dieAt_Jx4a65c_get_915e3
theorem dX5_dieAt_0 : decode cX5_dieAt 0 = .ok (.iload_n 1, 1) := by decide +kernel
theorem dX5_dieAt_1 : decode cX5_dieAt 1 = .ok (.ifCond .lt 14, 3) := by decide +kernel
theorem dX5_dieAt_4 : decode cX5_dieAt 4 = .ok (.iload_n 1, 1) := by decide +kernel
theorem dX5_dieAt_5 : decode cX5_dieAt 5 = .ok (.aload_n 0, 1) := by decide +kernel
theorem dX5_dieAt_6 : decode cX5_dieAt 6 = .ok (.getfield 25, 3) := by decide +kernel
theorem dX5_dieAt_9 : decode cX5_dieAt 9 = .ok (.invokevirtual 72, 3) := by decide +kernel
theorem dX5_dieAt_12 : decode cX5_dieAt 12 = .ok (.if_icmp .lt 14, 3) := by decide +kernel
theorem dX5_dieAt_15 : decode cX5_dieAt 15 = .ok (.new 85, 3) := by decide +kernel
theorem dX5_dieAt_18 : decode cX5_dieAt 18 = .ok (.dup, 1) := by decide +kernel
theorem dX5_dieAt_19 : decode cX5_dieAt 19 = .ok (.ldc_w 311, 3) := by decide +kernel
theorem dX5_dieAt_22 : decode cX5_dieAt 22 = .ok (.invokespecial 89, 3) := by decide +kernel
theorem dX5_dieAt_25 : decode cX5_dieAt 25 = .ok (.athrow, 1) := by decide +kernel
theorem dX5_dieAt_26 : decode cX5_dieAt 26 = .ok (.aload_n 0, 1) := by decide +kernel
theorem dX5_dieAt_27 : decode cX5_dieAt 27 = .ok (.getfield 25, 3) := by decide +kernel
theorem dX5_dieAt_30 : decode cX5_dieAt 30 = .ok (.iload_n 1, 1) := by decide +kernel
theorem dX5_dieAt_31 : decode cX5_dieAt 31 = .ok (.invokevirtual 96, 3) := by decide +kernel
theorem dX5_dieAt_34 : decode cX5_dieAt 34 = .ok (.checkcast 198, 3) := by decide +kernel
theorem dX5_dieAt_37 : decode cX5_dieAt 37 = .ok (.areturn, 1) := by decide +kernel
theorem dX5_refuseNoSection_0 : decode cX5_refuseNoSection 0 = .ok (.iload_n 0, 1) := by decide +kernel
theorem dX5_refuseNoSection_1 : decode cX5_refuseNoSection 1 = .ok (.ifCond .lt 9, 3) := by decide +kernel
theorem dX5_refuseNoSection_4 : decode cX5_refuseNoSection 4 = .ok (.iload_n 0, 1) := by decide +kernel
theorem dX5_refuseNoSection_5 : decode cX5_refuseNoSection 5 = .ok (.bipush 8, 2) := by decide +kernel
theorem dX5_refuseNoSection_7 : decode cX5_refuseNoSection 7 = .ok (.if_icmp .lt 14, 3) := by decide +kernel
theorem dX5_refuseNoSection_10 : decode cX5_refuseNoSection 10 = .ok (.new 85, 3) := by decide +kernel
theorem dX5_refuseNoSection_13 : decode cX5_refuseNoSection 13 = .ok (.dup, 1) := by decide +kernel
theorem dX5_refuseNoSection_14 : decode cX5_refuseNoSection 14 = .ok (.ldc_w 313, 3) := by decide +kernel
theorem dX5_refuseNoSection_17 : decode cX5_refuseNoSection 17 = .ok (.invokespecial 89, 3) := by decide +kernel
theorem dX5_refuseNoSection_20 : decode cX5_refuseNoSection 20 = .ok (.athrow, 1) := by decide +kernel
theorem dX5_refuseNoSection_21 : decode cX5_refuseNoSection 21 = .ok (.return_, 1) := by decide +kernel
theorem dX5_refuseMinutes_0 : decode cX5_refuseMinutes 0 = .ok (.iload_n 0, 1) := by decide +kernel
theorem dX5_refuseMinutes_1 : decode cX5_refuseMinutes 1 = .ok (.iconst 1, 1) := by decide +kernel
theorem dX5_refuseMinutes_2 : decode cX5_refuseMinutes 2 = .ok (.if_icmp .lt 10, 3) := by decide +kernel
theorem dX5_refuseMinutes_5 : decode cX5_refuseMinutes 5 = .ok (.iload_n 0, 1) := by decide +kernel
theorem dX5_refuseMinutes_6 : decode cX5_refuseMinutes 6 = .ok (.sipush 200, 3) := by decide +kernel
theorem dX5_refuseMinutes_9 : decode cX5_refuseMinutes 9 = .ok (.if_icmp .le 14, 3) := by decide +kernel
theorem dX5_refuseMinutes_12 : decode cX5_refuseMinutes 12 = .ok (.new 51, 3) := by decide +kernel
theorem dX5_refuseMinutes_15 : decode cX5_refuseMinutes 15 = .ok (.dup, 1) := by decide +kernel
theorem dX5_refuseMinutes_16 : decode cX5_refuseMinutes 16 = .ok (.ldc_w 315, 3) := by decide +kernel
theorem dX5_refuseMinutes_19 : decode cX5_refuseMinutes 19 = .ok (.invokespecial 55, 3) := by decide +kernel
theorem dX5_refuseMinutes_22 : decode cX5_refuseMinutes 22 = .ok (.athrow, 1) := by decide +kernel
theorem dX5_refuseMinutes_23 : decode cX5_refuseMinutes 23 = .ok (.return_, 1) := by decide +kernel
theorem dX5_refuseNoPattern_0 : decode cX5_refuseNoPattern 0 = .ok (.iload_n 0, 1) := by decide +kernel
theorem dX5_refuseNoPattern_1 : decode cX5_refuseNoPattern 1 = .ok (.ifCond .lt 10, 3) := by decide +kernel
theorem dX5_refuseNoPattern_4 : decode cX5_refuseNoPattern 4 = .ok (.iload_n 0, 1) := by decide +kernel
theorem dX5_refuseNoPattern_5 : decode cX5_refuseNoPattern 5 = .ok (.sipush 256, 3) := by decide +kernel
theorem dX5_refuseNoPattern_8 : decode cX5_refuseNoPattern 8 = .ok (.if_icmp .lt 14, 3) := by decide +kernel
theorem dX5_refuseNoPattern_11 : decode cX5_refuseNoPattern 11 = .ok (.new 51, 3) := by decide +kernel
theorem dX5_refuseNoPattern_14 : decode cX5_refuseNoPattern 14 = .ok (.dup, 1) := by decide +kernel
theorem dX5_refuseNoPattern_15 : decode cX5_refuseNoPattern 15 = .ok (.ldc_w 317, 3) := by decide +kernel
theorem dX5_refuseNoPattern_18 : decode cX5_refuseNoPattern 18 = .ok (.invokespecial 55, 3) := by decide +kernel
theorem dX5_refuseNoPattern_21 : decode cX5_refuseNoPattern 21 = .ok (.athrow, 1) := by decide +kernel
theorem dX5_refuseNoPattern_22 : decode cX5_refuseNoPattern 22 = .ok (.return_, 1) := by decide +kernel
theorem dX5_neighbourOf_0 : decode cX5_neighbourOf 0 = .ok (.iload_n 0, 1) := by decide +kernel
theorem dX5_neighbourOf_1 : decode cX5_neighbourOf 1 = .ok (.bipush 7, 2) := by decide +kernel
theorem dX5_neighbourOf_3 : decode cX5_neighbourOf 3 = .ok (.if_icmp .ne 9, 3) := by decide +kernel
theorem dX5_neighbourOf_6 : decode cX5_neighbourOf 6 = .ok (.iload_n 0, 1) := by decide +kernel
theorem dX5_neighbourOf_7 : decode cX5_neighbourOf 7 = .ok (.iconst 1, 1) := by decide +kernel
theorem dX5_neighbourOf_8 : decode cX5_neighbourOf 8 = .ok (.isub, 1) := by decide +kernel
theorem dX5_neighbourOf_9 : decode cX5_neighbourOf 9 = .ok (.goto 6, 3) := by decide +kernel
theorem dX5_neighbourOf_12 : decode cX5_neighbourOf 12 = .ok (.iload_n 0, 1) := by decide +kernel
theorem dX5_neighbourOf_13 : decode cX5_neighbourOf 13 = .ok (.iconst 1, 1) := by decide +kernel
theorem dX5_neighbourOf_14 : decode cX5_neighbourOf 14 = .ok (.iadd, 1) := by decide +kernel
theorem dX5_neighbourOf_15 : decode cX5_neighbourOf 15 = .ok (.ireturn, 1) := by decide +kernel
theorem dX5_isMoreThanThrice_0 : decode cX5_isMoreThanThrice 0 = .ok (.iload_n 0, 1) := by decide +kernel
theorem dX5_isMoreThanThrice_1 : decode cX5_isMoreThanThrice 1 = .ok (.iconst 3, 1) := by decide +kernel
theorem dX5_isMoreThanThrice_2 : decode cX5_isMoreThanThrice 2 = .ok (.iload_n 1, 1) := by decide +kernel
theorem dX5_isMoreThanThrice_3 : decode cX5_isMoreThanThrice 3 = .ok (.imul, 1) := by decide +kernel
theorem dX5_isMoreThanThrice_4 : decode cX5_isMoreThanThrice 4 = .ok (.if_icmp .le 7, 3) := by decide +kernel
theorem dX5_isMoreThanThrice_7 : decode cX5_isMoreThanThrice 7 = .ok (.iconst 1, 1) := by decide +kernel
theorem dX5_isMoreThanThrice_8 : decode cX5_isMoreThanThrice 8 = .ok (.goto 4, 3) := by decide +kernel
theorem dX5_isMoreThanThrice_11 : decode cX5_isMoreThanThrice 11 = .ok (.iconst 0, 1) := by decide +kernel
theorem dX5_isMoreThanThrice_12 : decode cX5_isMoreThanThrice 12 = .ok (.ireturn, 1) := by decide +kernel
theorem dX5_isInSet_0 : decode cX5_isInSet 0 = .ok (.iload_n 0, 1) := by decide +kernel
theorem dX5_isInSet_1 : decode cX5_isInSet 1 = .ok (.iload_n 1, 1) := by decide +kernel
theorem dX5_isInSet_2 : decode cX5_isInSet 2 = .ok (.iushr, 1) := by decide +kernel
theorem dX5_isInSet_3 : decode cX5_isInSet 3 = .ok (.iconst 1, 1) := by decide +kernel
theorem dX5_isInSet_4 : decode cX5_isInSet 4 = .ok (.iand, 1) := by decide +kernel
theorem dX5_isInSet_5 : decode cX5_isInSet 5 = .ok (.ifCond .eq 7, 3) := by decide +kernel
theorem dX5_isInSet_8 : decode cX5_isInSet 8 = .ok (.iconst 1, 1) := by decide +kernel
theorem dX5_isInSet_9 : decode cX5_isInSet 9 = .ok (.goto 4, 3) := by decide +kernel
theorem dX5_isInSet_12 : decode cX5_isInSet 12 = .ok (.iconst 0, 1) := by decide +kernel
theorem dX5_isInSet_13 : decode cX5_isInSet 13 = .ok (.ireturn, 1) := by decide +kernel
theorem dX5_isLoad_0 : decode cX5_isLoad 0 = .ok (.iload_n 1, 1) := by decide +kernel
theorem dX5_isLoad_1 : decode cX5_isLoad 1 = .ok (.ifCond .lt 16, 3) := by decide +kernel
theorem dX5_isLoad_4 : decode cX5_isLoad 4 = .ok (.iload_n 1, 1) := by decide +kernel
theorem dX5_isLoad_5 : decode cX5_isLoad 5 = .ok (.aload_n 0, 1) := by decide +kernel
theorem dX5_isLoad_6 : decode cX5_isLoad 6 = .ok (.getfield 28, 3) := by decide +kernel
theorem dX5_isLoad_9 : decode cX5_isLoad 9 = .ok (.arraylength, 1) := by decide +kernel
theorem dX5_isLoad_10 : decode cX5_isLoad 10 = .ok (.if_icmp .ge 7, 3) := by decide +kernel
theorem dX5_isLoad_13 : decode cX5_isLoad 13 = .ok (.iconst 1, 1) := by decide +kernel
theorem dX5_isLoad_14 : decode cX5_isLoad 14 = .ok (.goto 4, 3) := by decide +kernel
theorem dX5_isLoad_17 : decode cX5_isLoad 17 = .ok (.iconst 0, 1) := by decide +kernel
theorem dX5_isLoad_18 : decode cX5_isLoad 18 = .ok (.ireturn, 1) := by decide +kernel
set_option maxRecDepth 20000 in
theorem ggX5_canBeQuenched_Jx4a65c_size_8abf5 : GoodIn wsX5_canBeQuenched wsJx4a65c_size_8abf5 := goodIn_r _ [9, 10, 58, 59, 60] (by decide +kernel) (by decide +kernel)
set_option maxRecDepth 20000 in
theorem gX5_canBeQuenched_Jx4a65c_size_8abf5 : GoodIn wsX5_canBeQuenched (wsV RX5 72 RJx4a65c yJx4a65c_size_8abf5 wsJx4a65c_size_8abf5) := goodIn_app (goodIn_of _ (by decide +kernel)) ggX5_canBeQuenched_Jx4a65c_size_8abf5
set_option maxRecDepth 20000 in
theorem ggX5_canBeQuenched_Jx4a65c_get_915e3 : GoodIn wsX5_canBeQuenched wsJx4a65c_get_915e3 := goodIn_r _ [14, 10, 15, 16, 17, 18, 19, 20, 21, 22, 23, 24, 25, 8, 26, 27, 58, 59, 60] (by decide +kernel) (by decide +kernel)
set_option maxRecDepth 20000 in
theorem gX5_canBeQuenched_Jx4a65c_get_915e3 : GoodIn wsX5_canBeQuenched (wsV RX5 96 RJx4a65c yJx4a65c_get_915e3 wsJx4a65c_get_915e3) := goodIn_app (goodIn_of _ (by decide +kernel)) ggX5_canBeQuenched_Jx4a65c_get_915e3
set_option maxRecDepth 20000 in
theorem ggX5_canBeQuenched_X5_isInSet : GoodIn wsX5_canBeQuenched wsX5_isInSet := goodIn_r _ [31] (by decide +kernel) (by decide +kernel)
set_option maxRecDepth 20000 in
theorem gX5_canBeQuenched_X5_isInSet : GoodIn wsX5_canBeQuenched (va_wsS RX5 236 yX5_isInSet wsX5_isInSet) := goodIn_app (goodIn_of _ (by decide +kernel)) ggX5_canBeQuenched_X5_isInSet
theorem dX5_canBeQuenched_0 : decode cX5_canBeQuenched 0 = .ok (.iconst 0, 1) := by decide +kernel
theorem dX5_canBeQuenched_1 : decode cX5_canBeQuenched 1 = .ok (.istore_n 2, 1) := by decide +kernel
theorem dX5_canBeQuenched_2 : decode cX5_canBeQuenched 2 = .ok (.iload_n 2, 1) := by decide +kernel
theorem dX5_canBeQuenched_3 : decode cX5_canBeQuenched 3 = .ok (.aload_n 0, 1) := by decide +kernel
theorem dX5_canBeQuenched_4 : decode cX5_canBeQuenched 4 = .ok (.getfield 22, 3) := by decide +kernel
theorem dX5_canBeQuenched_7 : decode cX5_canBeQuenched 7 = .ok (.invokevirtual 72, 3) := by decide +kernel
theorem dX5_canBeQuenched_10 : decode cX5_canBeQuenched 10 = .ok (.if_icmp .ge 48, 3) := by decide +kernel
theorem dX5_canBeQuenched_13 : decode cX5_canBeQuenched 13 = .ok (.aload_n 0, 1) := by decide +kernel
theorem dX5_canBeQuenched_14 : decode cX5_canBeQuenched 14 = .ok (.getfield 22, 3) := by decide +kernel
theorem dX5_canBeQuenched_17 : decode cX5_canBeQuenched 17 = .ok (.iload_n 2, 1) := by decide +kernel
theorem dX5_canBeQuenched_18 : decode cX5_canBeQuenched 18 = .ok (.invokevirtual 96, 3) := by decide +kernel
theorem dX5_canBeQuenched_21 : decode cX5_canBeQuenched 21 = .ok (.checkcast 94, 3) := by decide +kernel
theorem dX5_canBeQuenched_24 : decode cX5_canBeQuenched 24 = .ok (.astore_n 3, 1) := by decide +kernel
theorem dX5_canBeQuenched_25 : decode cX5_canBeQuenched 25 = .ok (.iload_n 1, 1) := by decide +kernel
theorem dX5_canBeQuenched_26 : decode cX5_canBeQuenched 26 = .ok (.iload_n 2, 1) := by decide +kernel
theorem dX5_canBeQuenched_27 : decode cX5_canBeQuenched 27 = .ok (.invokestatic 236, 3) := by decide +kernel
theorem dX5_canBeQuenched_30 : decode cX5_canBeQuenched 30 = .ok (.ifCond .eq 22, 3) := by decide +kernel
theorem dX5_canBeQuenched_33 : decode cX5_canBeQuenched 33 = .ok (.aload_n 3, 1) := by decide +kernel
theorem dX5_canBeQuenched_34 : decode cX5_canBeQuenched 34 = .ok (.getfield 110, 3) := by decide +kernel
theorem dX5_canBeQuenched_37 : decode cX5_canBeQuenched 37 = .ok (.sipush 800, 3) := by decide +kernel
theorem dX5_canBeQuenched_40 : decode cX5_canBeQuenched 40 = .ok (.if_icmp .lt 10, 3) := by decide +kernel
theorem dX5_canBeQuenched_43 : decode cX5_canBeQuenched 43 = .ok (.aload_n 3, 1) := by decide +kernel
theorem dX5_canBeQuenched_44 : decode cX5_canBeQuenched 44 = .ok (.getfield 125, 3) := by decide +kernel
theorem dX5_canBeQuenched_47 : decode cX5_canBeQuenched 47 = .ok (.ifCond .eq 5, 3) := by decide +kernel
theorem dX5_canBeQuenched_50 : decode cX5_canBeQuenched 50 = .ok (.iconst 0, 1) := by decide +kernel
theorem dX5_canBeQuenched_51 : decode cX5_canBeQuenched 51 = .ok (.ireturn, 1) := by decide +kernel
theorem dX5_canBeQuenched_52 : decode cX5_canBeQuenched 52 = .ok (.iinc 2 1, 3) := by decide +kernel
theorem dX5_canBeQuenched_55 : decode cX5_canBeQuenched 55 = .ok (.goto (-53), 3) := by decide +kernel
theorem dX5_canBeQuenched_58 : decode cX5_canBeQuenched 58 = .ok (.iconst 1, 1) := by decide +kernel
theorem dX5_canBeQuenched_59 : decode cX5_canBeQuenched 59 = .ok (.ireturn, 1) := by decide +kernel
theorem dX6_init_0 : decode cX6_init 0 = .ok (.aload_n 0, 1) := by decide +kernel
theorem dX6_init_1 : decode cX6_init 1 = .ok (.invokespecial 1, 3) := by decide +kernel
theorem dX6_init_4 : decode cX6_init 4 = .ok (.aload_n 0, 1) := by decide +kernel
theorem dX6_init_5 : decode cX6_init 5 = .ok (.iconst 4, 1) := by decide +kernel
theorem dX6_init_6 : decode cX6_init 6 = .ok (.newarray .int, 2) := by decide +kernel
theorem dX6_init_8 : decode cX6_init 8 = .ok (.putfield 7, 3) := by decide +kernel
theorem dX6_init_11 : decode cX6_init 11 = .ok (.aload_n 0, 1) := by decide +kernel
theorem dX6_init_12 : decode cX6_init 12 = .ok (.iconst 4, 1) := by decide +kernel
theorem dX6_init_13 : decode cX6_init 13 = .ok (.newarray .int, 2) := by decide +kernel
theorem dX6_init_15 : decode cX6_init 15 = .ok (.putfield 13, 3) := by decide +kernel
theorem dX6_init_18 : decode cX6_init 18 = .ok (.aload_n 0, 1) := by decide +kernel
theorem dX6_init_19 : decode cX6_init 19 = .ok (.iconst 4, 1) := by decide +kernel
theorem dX6_init_20 : decode cX6_init 20 = .ok (.newarray .int, 2) := by decide +kernel
theorem dX6_init_22 : decode cX6_init 22 = .ok (.putfield 16, 3) := by decide +kernel
theorem dX6_init_25 : decode cX6_init 25 = .ok (.aload_n 0, 1) := by decide +kernel
theorem dX6_init_26 : decode cX6_init 26 = .ok (.bipush 20, 2) := by decide +kernel
theorem dX6_init_28 : decode cX6_init 28 = .ok (.newarray .int, 2) := by decide +kernel
theorem dX6_init_30 : decode cX6_init 30 = .ok (.putfield 19, 3) := by decide +kernel
theorem dX6_init_33 : decode cX6_init 33 = .ok (.aload_n 0, 1) := by decide +kernel
theorem dX6_init_34 : decode cX6_init 34 = .ok (.bipush 12, 2) := by decide +kernel
theorem dX6_init_36 : decode cX6_init 36 = .ok (.newarray .int, 2) := by decide +kernel
theorem dX6_init_38 : decode cX6_init 38 = .ok (.putfield 22, 3) := by decide +kernel
theorem dX6_init_41 : decode cX6_init 41 = .ok (.aload_n 0, 1) := by decide +kernel
theorem dX6_init_42 : decode cX6_init 42 = .ok (.bipush 96, 2) := by decide +kernel
theorem dX6_init_44 : decode cX6_init 44 = .ok (.newarray .int, 2) := by decide +kernel
theorem dX6_init_46 : decode cX6_init 46 = .ok (.putfield 25, 3) := by decide +kernel
theorem dX6_init_49 : decode cX6_init 49 = .ok (.aload_n 0, 1) := by decide +kernel
theorem dX6_init_50 : decode cX6_init 50 = .ok (.bipush 96, 2) := by decide +kernel
theorem dX6_init_52 : decode cX6_init 52 = .ok (.newarray .int, 2) := by decide +kernel
theorem dX6_init_54 : decode cX6_init 54 = .ok (.putfield 28, 3) := by decide +kernel
theorem dX6_init_57 : decode cX6_init 57 = .ok (.aload_n 0, 1) := by decide +kernel
theorem dX6_init_58 : decode cX6_init 58 = .ok (.bipush 12, 2) := by decide +kernel
theorem dX6_init_60 : decode cX6_init 60 = .ok (.newarray .int, 2) := by decide +kernel
theorem dX6_init_62 : decode cX6_init 62 = .ok (.putfield 31, 3) := by decide +kernel
theorem dX6_init_65 : decode cX6_init 65 = .ok (.aload_n 0, 1) := by decide +kernel
theorem dX6_init_66 : decode cX6_init 66 = .ok (.bipush 12, 2) := by decide +kernel
theorem dX6_init_68 : decode cX6_init 68 = .ok (.newarray .int, 2) := by decide +kernel
theorem dX6_init_70 : decode cX6_init 70 = .ok (.putfield 34, 3) := by decide +kernel
theorem dX6_init_73 : decode cX6_init 73 = .ok (.aload_n 0, 1) := by decide +kernel
theorem dX6_init_74 : decode cX6_init 74 = .ok (.bipush 12, 2) := by decide +kernel
theorem dX6_init_76 : decode cX6_init 76 = .ok (.newarray .int, 2) := by decide +kernel
theorem dX6_init_78 : decode cX6_init 78 = .ok (.putfield 37, 3) := by decide +kernel
theorem dX6_init_81 : decode cX6_init 81 = .ok (.aload_n 0, 1) := by decide +kernel
theorem dX6_init_82 : decode cX6_init 82 = .ok (.bipush 12, 2) := by decide +kernel
theorem dX6_init_84 : decode cX6_init 84 = .ok (.newarray .int, 2) := by decide +kernel
theorem dX6_init_86 : decode cX6_init 86 = .ok (.putfield 40, 3) := by decide +kernel
theorem dX6_init_89 : decode cX6_init 89 = .ok (.aload_n 0, 1) := by decide +kernel
theorem dX6_init_90 : decode cX6_init 90 = .ok (.bipush 12, 2) := by decide +kernel
theorem dX6_init_92 : decode cX6_init 92 = .ok (.newarray .int, 2) := by decide +kernel
theorem dX6_init_94 : decode cX6_init 94 = .ok (.putfield 43, 3) := by decide +kernel
theorem dX6_init_97 : decode cX6_init 97 = .ok (.aload_n 0, 1) := by decide +kernel
theorem dX6_init_98 : decode cX6_init 98 = .ok (.bipush 12, 2) := by decide +kernel
theorem dX6_init_100 : decode cX6_init 100 = .ok (.newarray .boolean, 2) := by decide +kernel
theorem dX6_init_102 : decode cX6_init 102 = .ok (.putfield 46, 3) := by decide +kernel
theorem dX6_init_105 : decode cX6_init 105 = .ok (.aload_n 0, 1) := by decide +kernel
theorem dX6_init_106 : decode cX6_init 106 = .ok (.bipush 12, 2) := by decide +kernel
theorem dX6_init_108 : decode cX6_init 108 = .ok (.newarray .int, 2) := by decide +kernel
theorem dX6_init_110 : decode cX6_init 110 = .ok (.putfield 50, 3) := by decide +kernel
theorem dX6_init_113 : decode cX6_init 113 = .ok (.aload_n 0, 1) := by decide +kernel
theorem dX6_init_114 : decode cX6_init 114 = .ok (.bipush 12, 2) := by decide +kernel
theorem dX6_init_116 : decode cX6_init 116 = .ok (.newarray .int, 2) := by decide +kernel
theorem dX6_init_118 : decode cX6_init 118 = .ok (.putfield 53, 3) := by decide +kernel
theorem dX6_init_121 : decode cX6_init 121 = .ok (.aload_n 0, 1) := by decide +kernel
theorem dX6_init_122 : decode cX6_init 122 = .ok (.bipush 12, 2) := by decide +kernel
theorem dX6_init_124 : decode cX6_init 124 = .ok (.newarray .int, 2) := by decide +kernel
theorem dX6_init_126 : decode cX6_init 126 = .ok (.putfield 56, 3) := by decide +kernel
theorem dX6_init_129 : decode cX6_init 129 = .ok (.aload_n 0, 1) := by decide +kernel
theorem dX6_init_130 : decode cX6_init 130 = .ok (.bipush 12, 2) := by decide +kernel
theorem dX6_init_132 : decode cX6_init 132 = .ok (.newarray .boolean, 2) := by decide +kernel
theorem dX6_init_134 : decode cX6_init 134 = .ok (.putfield 59, 3) := by decide +kernel
theorem dX6_init_137 : decode cX6_init 137 = .ok (.aload_n 0, 1) := by decide +kernel
theorem dX6_init_138 : decode cX6_init 138 = .ok (.bipush 12, 2) := by decide +kernel
theorem dX6_init_140 : decode cX6_init 140 = .ok (.newarray .int, 2) := by decide +kernel
theorem dX6_init_142 : decode cX6_init 142 = .ok (.putfield 62, 3) := by decide +kernel
theorem dX6_init_145 : decode cX6_init 145 = .ok (.aload_n 0, 1) := by decide +kernel
theorem dX6_init_146 : decode cX6_init 146 = .ok (.bipush 12, 2) := by decide +kernel
theorem dX6_init_148 : decode cX6_init 148 = .ok (.newarray .int, 2) := by decide +kernel
theorem dX6_init_150 : decode cX6_init 150 = .ok (.putfield 65, 3) := by decide +kernel
theorem dX6_init_153 : decode cX6_init 153 = .ok (.aload_n 0, 1) := by decide +kernel
theorem dX6_init_154 : decode cX6_init 154 = .ok (.bipush 32, 2) := by decide +kernel
theorem dX6_init_156 : decode cX6_init 156 = .ok (.newarray .int, 2) := by decide +kernel
theorem dX6_init_158 : decode cX6_init 158 = .ok (.putfield 68, 3) := by decide +kernel
theorem dX6_init_161 : decode cX6_init 161 = .ok (.aload_n 0, 1) := by decide +kernel
theorem dX6_init_162 : decode cX6_init 162 = .ok (.iconst 4, 1) := by decide +kernel
theorem dX6_init_163 : decode cX6_init 163 = .ok (.newarray .int, 2) := by decide +kernel
theorem dX6_init_165 : decode cX6_init 165 = .ok (.putfield 71, 3) := by decide +kernel
theorem dX6_init_168 : decode cX6_init 168 = .ok (.aload_n 0, 1) := by decide +kernel
theorem dX6_init_169 : decode cX6_init 169 = .ok (.sipush 400, 3) := by decide +kernel
theorem dX6_init_172 : decode cX6_init 172 = .ok (.newarray .boolean, 2) := by decide +kernel
theorem dX6_init_174 : decode cX6_init 174 = .ok (.putfield 74, 3) := by decide +kernel
theorem dX6_init_177 : decode cX6_init 177 = .ok (.aload_n 0, 1) := by decide +kernel
theorem dX6_init_178 : decode cX6_init 178 = .ok (.bipush 12, 2) := by decide +kernel
theorem dX6_init_180 : decode cX6_init 180 = .ok (.newarray .int, 2) := by decide +kernel
theorem dX6_init_182 : decode cX6_init 182 = .ok (.putfield 77, 3) := by decide +kernel
theorem dX6_init_185 : decode cX6_init 185 = .ok (.aload_n 0, 1) := by decide +kernel
theorem dX6_init_186 : decode cX6_init 186 = .ok (.sipush 256, 3) := by decide +kernel
theorem dX6_init_189 : decode cX6_init 189 = .ok (.newarray .int, 2) := by decide +kernel
theorem dX6_init_191 : decode cX6_init 191 = .ok (.putfield 80, 3) := by decide +kernel
theorem dX6_init_194 : decode cX6_init 194 = .ok (.aload_n 0, 1) := by decide +kernel
theorem dX6_init_195 : decode cX6_init 195 = .ok (.sipush 256, 3) := by decide +kernel
theorem dX6_init_198 : decode cX6_init 198 = .ok (.newarray .int, 2) := by decide +kernel
theorem dX6_init_200 : decode cX6_init 200 = .ok (.putfield 83, 3) := by decide +kernel
theorem dX6_init_203 : decode cX6_init 203 = .ok (.iconst 0, 1) := by decide +kernel
theorem dX6_init_204 : decode cX6_init 204 = .ok (.istore_n 1, 1) := by decide +kernel
theorem dX6_init_205 : decode cX6_init 205 = .ok (.iload_n 1, 1) := by decide +kernel
theorem dX6_init_206 : decode cX6_init 206 = .ok (.iconst 4, 1) := by decide +kernel
theorem dX6_init_207 : decode cX6_init 207 = .ok (.if_icmp .ge 31, 3) := by decide +kernel
theorem dX6_init_210 : decode cX6_init 210 = .ok (.aload_n 0, 1) := by decide +kernel
theorem dX6_init_211 : decode cX6_init 211 = .ok (.getfield 7, 3) := by decide +kernel
theorem dX6_init_214 : decode cX6_init 214 = .ok (.iload_n 1, 1) := by decide +kernel
theorem dX6_init_215 : decode cX6_init 215 = .ok (.iconst 3, 1) := by decide +kernel
theorem dX6_init_216 : decode cX6_init 216 = .ok (.iastore, 1) := by decide +kernel
theorem dX6_init_217 : decode cX6_init 217 = .ok (.aload_n 0, 1) := by decide +kernel
theorem dX6_init_218 : decode cX6_init 218 = .ok (.getfield 13, 3) := by decide +kernel
theorem dX6_init_221 : decode cX6_init 221 = .ok (.iload_n 1, 1) := by decide +kernel
theorem dX6_init_222 : decode cX6_init 222 = .ok (.bipush 60, 2) := by decide +kernel
theorem dX6_init_224 : decode cX6_init 224 = .ok (.iastore, 1) := by decide +kernel
theorem dX6_init_225 : decode cX6_init 225 = .ok (.aload_n 0, 1) := by decide +kernel
theorem dX6_init_226 : decode cX6_init 226 = .ok (.getfield 16, 3) := by decide +kernel
theorem dX6_init_229 : decode cX6_init 229 = .ok (.iload_n 1, 1) := by decide +kernel
theorem dX6_init_230 : decode cX6_init 230 = .ok (.iconst 4, 1) := by decide +kernel
theorem dX6_init_231 : decode cX6_init 231 = .ok (.iastore, 1) := by decide +kernel
theorem dX6_init_232 : decode cX6_init 232 = .ok (.iinc 1 1, 3) := by decide +kernel
theorem dX6_init_235 : decode cX6_init 235 = .ok (.goto (-30), 3) := by decide +kernel
theorem dX6_init_238 : decode cX6_init 238 = .ok (.aload_n 0, 1) := by decide +kernel
theorem dX6_init_239 : decode cX6_init 239 = .ok (.sipush 200, 3) := by decide +kernel
theorem dX6_init_242 : decode cX6_init 242 = .ok (.putfield 86, 3) := by decide +kernel
theorem dX6_init_245 : decode cX6_init 245 = .ok (.return_, 1) := by decide +kernel
theorem dX6_thrown_0 : decode cX6_thrown 0 = .ok (.aload_n 0, 1) := by decide +kernel
theorem dX6_thrown_1 : decode cX6_thrown 1 = .ok (.getfield 90, 3) := by decide +kernel
theorem dX6_thrown_4 : decode cX6_thrown 4 = .ok (.ireturn, 1) := by decide +kernel
theorem dX6_in_0 : decode cX6_in 0 = .ok (.iload_n 0, 1) := by decide +kernel
theorem dX6_in_1 : decode cX6_in 1 = .ok (.iload_n 1, 1) := by decide +kernel
theorem dX6_in_2 : decode cX6_in 2 = .ok (.if_icmp .lt 12, 3) := by decide +kernel
theorem dX6_in_5 : decode cX6_in 5 = .ok (.iload_n 0, 1) := by decide +kernel
theorem dX6_in_6 : decode cX6_in 6 = .ok (.iload_n 2, 1) := by decide +kernel
theorem dX6_in_7 : decode cX6_in 7 = .ok (.if_icmp .gt 7, 3) := by decide +kernel
theorem dX6_in_10 : decode cX6_in 10 = .ok (.iconst 1, 1) := by decide +kernel
theorem dX6_in_11 : decode cX6_in 11 = .ok (.goto 4, 3) := by decide +kernel
theorem dX6_in_14 : decode cX6_in 14 = .ok (.iconst 0, 1) := by decide +kernel
theorem dX6_in_15 : decode cX6_in 15 = .ok (.ireturn, 1) := by decide +kernel
theorem dX6_goes_0 : decode cX6_goes 0 = .ok (.aload_n 0, 1) := by decide +kernel
theorem dX6_goes_1 : decode cX6_goes 1 = .ok (.iload_n 1, 1) := by decide +kernel
theorem dX6_goes_2 : decode cX6_goes 2 = .ok (.ifCond .ne 7, 3) := by decide +kernel
theorem dX6_goes_5 : decode cX6_goes 5 = .ok (.iconst 1, 1) := by decide +kernel
theorem dX6_goes_6 : decode cX6_goes 6 = .ok (.goto 20, 3) := by decide +kernel
theorem dX6_goes_9 : decode cX6_goes 9 = .ok (.iload_n 2, 1) := by decide +kernel
theorem dX6_goes_10 : decode cX6_goes 10 = .ok (.ifCond .ne 7, 3) := by decide +kernel
theorem dX6_goes_13 : decode cX6_goes 13 = .ok (.iconst 2, 1) := by decide +kernel
theorem dX6_goes_14 : decode cX6_goes 14 = .ok (.goto 12, 3) := by decide +kernel
theorem dX6_goes_17 : decode cX6_goes 17 = .ok (.iload_n 3, 1) := by decide +kernel
theorem dX6_goes_18 : decode cX6_goes 18 = .ok (.ifCond .ne 7, 3) := by decide +kernel
theorem dX6_goes_21 : decode cX6_goes 21 = .ok (.iconst 3, 1) := by decide +kernel
theorem dX6_goes_22 : decode cX6_goes 22 = .ok (.goto 4, 3) := by decide +kernel
theorem dX6_goes_25 : decode cX6_goes 25 = .ok (.iconst 0, 1) := by decide +kernel
theorem dX6_goes_26 : decode cX6_goes 26 = .ok (.putfield 90, 3) := by decide +kernel
theorem dX6_goes_29 : decode cX6_goes 29 = .ok (.aload_n 0, 1) := by decide +kernel
theorem dX6_goes_30 : decode cX6_goes 30 = .ok (.getfield 90, 3) := by decide +kernel
theorem dX6_goes_33 : decode cX6_goes 33 = .ok (.ifCond .ne 7, 3) := by decide +kernel
theorem dX6_goes_36 : decode cX6_goes 36 = .ok (.iconst 1, 1) := by decide +kernel
theorem dX6_goes_37 : decode cX6_goes 37 = .ok (.goto 4, 3) := by decide +kernel
theorem dX6_goes_40 : decode cX6_goes 40 = .ok (.iconst 0, 1) := by decide +kernel
theorem dX6_goes_41 : decode cX6_goes 41 = .ok (.ireturn, 1) := by decide +kernel
set_option maxRecDepth 20000 in
theorem ggX6_isBillet_X6_in : GoodIn wsX6_isBillet wsX6_in := goodIn_r _ [5] (by decide +kernel) (by decide +kernel)
set_option maxRecDepth 20000 in
theorem gX6_isBillet_X6_in : GoodIn wsX6_isBillet (va_wsS RX6 96 yX6_in wsX6_in) := goodIn_app (goodIn_of _ (by decide +kernel)) ggX6_isBillet_X6_in
theorem dX6_isBillet_0 : decode cX6_isBillet 0 = .ok (.iload_n 1, 1) := by decide +kernel
theorem dX6_isBillet_1 : decode cX6_isBillet 1 = .ok (.iconst 0, 1) := by decide +kernel
theorem dX6_isBillet_2 : decode cX6_isBillet 2 = .ok (.aload_n 0, 1) := by decide +kernel
theorem dX6_isBillet_3 : decode cX6_isBillet 3 = .ok (.getfield 93, 3) := by decide +kernel
theorem dX6_isBillet_6 : decode cX6_isBillet 6 = .ok (.iconst 1, 1) := by decide +kernel
theorem dX6_isBillet_7 : decode cX6_isBillet 7 = .ok (.isub, 1) := by decide +kernel
theorem dX6_isBillet_8 : decode cX6_isBillet 8 = .ok (.invokestatic 96, 3) := by decide +kernel
theorem dX6_isBillet_11 : decode cX6_isBillet 11 = .ok (.ireturn, 1) := by decide +kernel
set_option maxRecDepth 20000 in
theorem ggX6_isSection_X6_in : GoodIn wsX6_isSection wsX6_in := goodIn_r _ [4] (by decide +kernel) (by decide +kernel)
set_option maxRecDepth 20000 in
theorem gX6_isSection_X6_in : GoodIn wsX6_isSection (va_wsS RX6 96 yX6_in wsX6_in) := goodIn_app (goodIn_of _ (by decide +kernel)) ggX6_isSection_X6_in
theorem dX6_isSection_0 : decode cX6_isSection 0 = .ok (.iload_n 0, 1) := by decide +kernel
theorem dX6_isSection_1 : decode cX6_isSection 1 = .ok (.iconst 0, 1) := by decide +kernel
theorem dX6_isSection_2 : decode cX6_isSection 2 = .ok (.bipush 7, 2) := by decide +kernel
theorem dX6_isSection_4 : decode cX6_isSection 4 = .ok (.invokestatic 96, 3) := by decide +kernel
theorem dX6_isSection_7 : decode cX6_isSection 7 = .ok (.ireturn, 1) := by decide +kernel
set_option maxRecDepth 20000 in
theorem ggX6_isDie_X6_in : GoodIn wsX6_isDie wsX6_in := goodIn_r _ [5] (by decide +kernel) (by decide +kernel)
set_option maxRecDepth 20000 in
theorem gX6_isDie_X6_in : GoodIn wsX6_isDie (va_wsS RX6 96 yX6_in wsX6_in) := goodIn_app (goodIn_of _ (by decide +kernel)) ggX6_isDie_X6_in
theorem dX6_isDie_0 : decode cX6_isDie 0 = .ok (.iload_n 1, 1) := by decide +kernel
theorem dX6_isDie_1 : decode cX6_isDie 1 = .ok (.iconst 0, 1) := by decide +kernel
theorem dX6_isDie_2 : decode cX6_isDie 2 = .ok (.aload_n 0, 1) := by decide +kernel
theorem dX6_isDie_3 : decode cX6_isDie 3 = .ok (.getfield 100, 3) := by decide +kernel
theorem dX6_isDie_6 : decode cX6_isDie 6 = .ok (.iconst 1, 1) := by decide +kernel
theorem dX6_isDie_7 : decode cX6_isDie 7 = .ok (.isub, 1) := by decide +kernel
theorem dX6_isDie_8 : decode cX6_isDie 8 = .ok (.invokestatic 96, 3) := by decide +kernel
theorem dX6_isDie_11 : decode cX6_isDie 11 = .ok (.ireturn, 1) := by decide +kernel
theorem dX6_least_0 : decode cX6_least 0 = .ok (.iload_n 0, 1) := by decide +kernel
theorem dX6_least_1 : decode cX6_least 1 = .ok (.iload_n 1, 1) := by decide +kernel
theorem dX6_least_2 : decode cX6_least 2 = .ok (.if_icmp .ge 7, 3) := by decide +kernel
theorem dX6_least_5 : decode cX6_least 5 = .ok (.iload_n 0, 1) := by decide +kernel
theorem dX6_least_6 : decode cX6_least 6 = .ok (.goto 4, 3) := by decide +kernel
theorem dX6_least_9 : decode cX6_least 9 = .ok (.iload_n 1, 1) := by decide +kernel
theorem dX6_least_10 : decode cX6_least 10 = .ok (.ireturn, 1) := by decide +kernel
theorem dX6_steelIs_0 : decode cX6_steelIs 0 = .ok (.aload_n 0, 1) := by decide +kernel
theorem dX6_steelIs_1 : decode cX6_steelIs 1 = .ok (.getfield 19, 3) := by decide +kernel
theorem dX6_steelIs_4 : decode cX6_steelIs 4 = .ok (.aload_n 0, 1) := by decide +kernel
theorem dX6_steelIs_5 : decode cX6_steelIs 5 = .ok (.getfield 22, 3) := by decide +kernel
theorem dX6_steelIs_8 : decode cX6_steelIs 8 = .ok (.iload_n 1, 1) := by decide +kernel
theorem dX6_steelIs_9 : decode cX6_steelIs 9 = .ok (.iaload, 1) := by decide +kernel
theorem dX6_steelIs_10 : decode cX6_steelIs 10 = .ok (.iaload, 1) := by decide +kernel
theorem dX6_steelIs_11 : decode cX6_steelIs 11 = .ok (.ireturn, 1) := by decide +kernel
set_option maxRecDepth 20000 in
theorem ggX6_steel_X6_in : GoodIn wsX6_steel wsX6_in := goodIn_r _ [7] (by decide +kernel) (by decide +kernel)
set_option maxRecDepth 20000 in
theorem gX6_steel_X6_in : GoodIn wsX6_steel (va_wsS RX6 96 yX6_in wsX6_in) := goodIn_app (goodIn_of _ (by decide +kernel)) ggX6_steel_X6_in
set_option maxRecDepth 20000 in
theorem ggX6_steel_X6_goes : GoodIn wsX6_steel wsX6_goes := goodIn_r _ [11, 12, 13, 14, 15, 16, 17, 18, 19, 20, 21, 22, 23, 24, 25, 26, 27, 28, 29, 30, 31, 32, 33, 34, 35, 36, 37, 38, 39, 40, 41, 42, 43, 44] (by decide +kernel) (by decide +kernel)
set_option maxRecDepth 20000 in
theorem gX6_steel_X6_goes : GoodIn wsX6_steel (wsV RX6 103 RX6 yX6_goes wsX6_goes) := goodIn_app (goodIn_of _ (by decide +kernel)) ggX6_steel_X6_goes
theorem dX6_steel_0 : decode cX6_steel 0 = .ok (.aload_n 0, 1) := by decide +kernel
theorem dX6_steel_1 : decode cX6_steel 1 = .ok (.iload_n 1, 1) := by decide +kernel
theorem dX6_steel_2 : decode cX6_steel 2 = .ok (.iconst 0, 1) := by decide +kernel
theorem dX6_steel_3 : decode cX6_steel 3 = .ok (.iconst 3, 1) := by decide +kernel
theorem dX6_steel_4 : decode cX6_steel 4 = .ok (.invokestatic 96, 3) := by decide +kernel
theorem dX6_steel_7 : decode cX6_steel 7 = .ok (.iload_n 2, 1) := by decide +kernel
theorem dX6_steel_8 : decode cX6_steel 8 = .ok (.iconst 1, 1) := by decide +kernel
theorem dX6_steel_9 : decode cX6_steel 9 = .ok (.bipush 9, 2) := by decide +kernel
theorem dX6_steel_11 : decode cX6_steel 11 = .ok (.invokestatic 96, 3) := by decide +kernel
theorem dX6_steel_14 : decode cX6_steel 14 = .ok (.ifCond .eq 29, 3) := by decide +kernel
theorem dX6_steel_17 : decode cX6_steel 17 = .ok (.iload_n 3, 1) := by decide +kernel
theorem dX6_steel_18 : decode cX6_steel 18 = .ok (.bipush 20, 2) := by decide +kernel
theorem dX6_steel_20 : decode cX6_steel 20 = .ok (.bipush 70, 2) := by decide +kernel
theorem dX6_steel_22 : decode cX6_steel 22 = .ok (.invokestatic 96, 3) := by decide +kernel
theorem dX6_steel_25 : decode cX6_steel 25 = .ok (.ifCond .eq 18, 3) := by decide +kernel
theorem dX6_steel_28 : decode cX6_steel 28 = .ok (.iload 4, 2) := by decide +kernel
theorem dX6_steel_30 : decode cX6_steel 30 = .ok (.iconst 0, 1) := by decide +kernel
theorem dX6_steel_31 : decode cX6_steel 31 = .ok (.bipush 9, 2) := by decide +kernel
theorem dX6_steel_33 : decode cX6_steel 33 = .ok (.invokestatic 96, 3) := by decide +kernel
theorem dX6_steel_36 : decode cX6_steel 36 = .ok (.ifCond .eq 7, 3) := by decide +kernel
theorem dX6_steel_39 : decode cX6_steel 39 = .ok (.iconst 1, 1) := by decide +kernel
theorem dX6_steel_40 : decode cX6_steel 40 = .ok (.goto 4, 3) := by decide +kernel
theorem dX6_steel_43 : decode cX6_steel 43 = .ok (.iconst 0, 1) := by decide +kernel
theorem dX6_steel_44 : decode cX6_steel 44 = .ok (.iconst 1, 1) := by decide +kernel
theorem dX6_steel_45 : decode cX6_steel 45 = .ok (.invokevirtual 103, 3) := by decide +kernel
theorem dX6_steel_48 : decode cX6_steel 48 = .ok (.ifCond .eq 25, 3) := by decide +kernel
theorem dX6_steel_51 : decode cX6_steel 51 = .ok (.aload_n 0, 1) := by decide +kernel
theorem dX6_steel_52 : decode cX6_steel 52 = .ok (.getfield 7, 3) := by decide +kernel
theorem dX6_steel_55 : decode cX6_steel 55 = .ok (.iload_n 1, 1) := by decide +kernel
theorem dX6_steel_56 : decode cX6_steel 56 = .ok (.iload_n 2, 1) := by decide +kernel
theorem dX6_steel_57 : decode cX6_steel 57 = .ok (.iastore, 1) := by decide +kernel
theorem dX6_steel_58 : decode cX6_steel 58 = .ok (.aload_n 0, 1) := by decide +kernel
theorem dX6_steel_59 : decode cX6_steel 59 = .ok (.getfield 13, 3) := by decide +kernel
theorem dX6_steel_62 : decode cX6_steel 62 = .ok (.iload_n 1, 1) := by decide +kernel
theorem dX6_steel_63 : decode cX6_steel 63 = .ok (.iload_n 3, 1) := by decide +kernel
theorem dX6_steel_64 : decode cX6_steel 64 = .ok (.iastore, 1) := by decide +kernel
theorem dX6_steel_65 : decode cX6_steel 65 = .ok (.aload_n 0, 1) := by decide +kernel
theorem dX6_steel_66 : decode cX6_steel 66 = .ok (.getfield 16, 3) := by decide +kernel
theorem dX6_steel_69 : decode cX6_steel 69 = .ok (.iload_n 1, 1) := by decide +kernel
theorem dX6_steel_70 : decode cX6_steel 70 = .ok (.iload 4, 2) := by decide +kernel
theorem dX6_steel_72 : decode cX6_steel 72 = .ok (.iastore, 1) := by decide +kernel
theorem dX6_steel_73 : decode cX6_steel 73 = .ok (.return_, 1) := by decide +kernel
set_option maxRecDepth 20000 in
theorem ggX6_melt_X6_in : GoodIn wsX6_melt wsX6_in := goodIn_r _ [6] (by decide +kernel) (by decide +kernel)
set_option maxRecDepth 20000 in
theorem gX6_melt_X6_in : GoodIn wsX6_melt (va_wsS RX6 96 yX6_in wsX6_in) := goodIn_app (goodIn_of _ (by decide +kernel)) ggX6_melt_X6_in
set_option maxRecDepth 20000 in
theorem ggX6_melt_X6_goes : GoodIn wsX6_melt wsX6_goes := goodIn_r _ [10, 11, 12, 13, 14, 15, 16, 17, 18, 19, 20, 21, 22, 23, 24, 25, 26, 27, 28, 29, 30, 31, 32, 33, 34, 35, 36, 37, 38, 39, 40, 41, 42, 43] (by decide +kernel) (by decide +kernel)
set_option maxRecDepth 20000 in
theorem gX6_melt_X6_goes : GoodIn wsX6_melt (wsV RX6 103 RX6 yX6_goes wsX6_goes) := goodIn_app (goodIn_of _ (by decide +kernel)) ggX6_melt_X6_goes
theorem dX6_melt_0 : decode cX6_melt 0 = .ok (.aload_n 0, 1) := by decide +kernel
theorem dX6_melt_1 : decode cX6_melt 1 = .ok (.iload_n 1, 1) := by decide +kernel
theorem dX6_melt_2 : decode cX6_melt 2 = .ok (.iconst 0, 1) := by decide +kernel
theorem dX6_melt_3 : decode cX6_melt 3 = .ok (.iconst 3, 1) := by decide +kernel
theorem dX6_melt_4 : decode cX6_melt 4 = .ok (.invokestatic 96, 3) := by decide +kernel
theorem dX6_melt_7 : decode cX6_melt 7 = .ok (.aload_n 0, 1) := by decide +kernel
theorem dX6_melt_8 : decode cX6_melt 8 = .ok (.getfield 107, 3) := by decide +kernel
theorem dX6_melt_11 : decode cX6_melt 11 = .ok (.bipush 20, 2) := by decide +kernel
theorem dX6_melt_13 : decode cX6_melt 13 = .ok (.if_icmp .ge 7, 3) := by decide +kernel
theorem dX6_melt_16 : decode cX6_melt 16 = .ok (.iconst 1, 1) := by decide +kernel
theorem dX6_melt_17 : decode cX6_melt 17 = .ok (.goto 4, 3) := by decide +kernel
theorem dX6_melt_20 : decode cX6_melt 20 = .ok (.iconst 0, 1) := by decide +kernel
theorem dX6_melt_21 : decode cX6_melt 21 = .ok (.iconst 1, 1) := by decide +kernel
theorem dX6_melt_22 : decode cX6_melt 22 = .ok (.invokevirtual 103, 3) := by decide +kernel
theorem dX6_melt_25 : decode cX6_melt 25 = .ok (.ifCond .ne 5, 3) := by decide +kernel
theorem dX6_melt_28 : decode cX6_melt 28 = .ok (.iconst 0, 1) := by decide +kernel
theorem dX6_melt_29 : decode cX6_melt 29 = .ok (.ireturn, 1) := by decide +kernel
theorem dX6_melt_30 : decode cX6_melt 30 = .ok (.aload_n 0, 1) := by decide +kernel
theorem dX6_melt_31 : decode cX6_melt 31 = .ok (.getfield 19, 3) := by decide +kernel
theorem dX6_melt_34 : decode cX6_melt 34 = .ok (.aload_n 0, 1) := by decide +kernel
theorem dX6_melt_35 : decode cX6_melt 35 = .ok (.getfield 107, 3) := by decide +kernel
theorem dX6_melt_38 : decode cX6_melt 38 = .ok (.iload_n 1, 1) := by decide +kernel
theorem dX6_melt_39 : decode cX6_melt 39 = .ok (.iastore, 1) := by decide +kernel
theorem dX6_melt_40 : decode cX6_melt 40 = .ok (.aload_n 0, 1) := by decide +kernel
theorem dX6_melt_41 : decode cX6_melt 41 = .ok (.dup, 1) := by decide +kernel
theorem dX6_melt_42 : decode cX6_melt 42 = .ok (.getfield 107, 3) := by decide +kernel
theorem dX6_melt_45 : decode cX6_melt 45 = .ok (.iconst 1, 1) := by decide +kernel
theorem dX6_melt_46 : decode cX6_melt 46 = .ok (.iadd, 1) := by decide +kernel
theorem dX6_melt_47 : decode cX6_melt 47 = .ok (.putfield 107, 3) := by decide +kernel
theorem dX6_melt_50 : decode cX6_melt 50 = .ok (.aload_n 0, 1) := by decide +kernel
theorem dX6_melt_51 : decode cX6_melt 51 = .ok (.getfield 107, 3) := by decide +kernel
theorem dX6_melt_54 : decode cX6_melt 54 = .ok (.iconst 1, 1) := by decide +kernel
theorem dX6_melt_55 : decode cX6_melt 55 = .ok (.isub, 1) := by decide +kernel
theorem dX6_melt_56 : decode cX6_melt 56 = .ok (.ireturn, 1) := by decide +kernel
set_option maxRecDepth 20000 in
theorem ggX6_billet_X6_in : GoodIn wsX6_billet wsX6_in := goodIn_r _ [14] (by decide +kernel) (by decide +kernel)
set_option maxRecDepth 20000 in
theorem gX6_billet_X6_in : GoodIn wsX6_billet (va_wsS RX6 96 yX6_in wsX6_in) := goodIn_app (goodIn_of _ (by decide +kernel)) ggX6_billet_X6_in
set_option maxRecDepth 20000 in
theorem ggX6_billet_X6_goes : GoodIn wsX6_billet wsX6_goes := goodIn_r _ [18, 19, 20, 21, 22, 23, 24, 25, 26, 27, 28, 29, 30, 31, 32, 33, 34, 35, 36, 37, 38, 39, 40, 41, 42, 43, 44, 45, 46, 47, 48, 49, 50, 51] (by decide +kernel) (by decide +kernel)
set_option maxRecDepth 20000 in
theorem gX6_billet_X6_goes : GoodIn wsX6_billet (wsV RX6 103 RX6 yX6_goes wsX6_goes) := goodIn_app (goodIn_of _ (by decide +kernel)) ggX6_billet_X6_goes
theorem dX6_billet_0 : decode cX6_billet 0 = .ok (.aload_n 0, 1) := by decide +kernel
theorem dX6_billet_1 : decode cX6_billet 1 = .ok (.iload_n 1, 1) := by decide +kernel
theorem dX6_billet_2 : decode cX6_billet 2 = .ok (.iconst 0, 1) := by decide +kernel
theorem dX6_billet_3 : decode cX6_billet 3 = .ok (.aload_n 0, 1) := by decide +kernel
theorem dX6_billet_4 : decode cX6_billet 4 = .ok (.getfield 107, 3) := by decide +kernel
theorem dX6_billet_7 : decode cX6_billet 7 = .ok (.iconst 1, 1) := by decide +kernel
theorem dX6_billet_8 : decode cX6_billet 8 = .ok (.isub, 1) := by decide +kernel
theorem dX6_billet_9 : decode cX6_billet 9 = .ok (.invokestatic 96, 3) := by decide +kernel
theorem dX6_billet_12 : decode cX6_billet 12 = .ok (.iload_n 2, 1) := by decide +kernel
theorem dX6_billet_13 : decode cX6_billet 13 = .ok (.iconst 2, 1) := by decide +kernel
theorem dX6_billet_14 : decode cX6_billet 14 = .ok (.sipush 200, 3) := by decide +kernel
theorem dX6_billet_17 : decode cX6_billet 17 = .ok (.invokestatic 96, 3) := by decide +kernel
theorem dX6_billet_20 : decode cX6_billet 20 = .ok (.aload_n 0, 1) := by decide +kernel
theorem dX6_billet_21 : decode cX6_billet 21 = .ok (.getfield 93, 3) := by decide +kernel
theorem dX6_billet_24 : decode cX6_billet 24 = .ok (.bipush 12, 2) := by decide +kernel
theorem dX6_billet_26 : decode cX6_billet 26 = .ok (.if_icmp .ge 7, 3) := by decide +kernel
theorem dX6_billet_29 : decode cX6_billet 29 = .ok (.iconst 1, 1) := by decide +kernel
theorem dX6_billet_30 : decode cX6_billet 30 = .ok (.goto 4, 3) := by decide +kernel
theorem dX6_billet_33 : decode cX6_billet 33 = .ok (.iconst 0, 1) := by decide +kernel
theorem dX6_billet_34 : decode cX6_billet 34 = .ok (.invokevirtual 103, 3) := by decide +kernel
theorem dX6_billet_37 : decode cX6_billet 37 = .ok (.ifCond .ne 5, 3) := by decide +kernel
theorem dX6_billet_40 : decode cX6_billet 40 = .ok (.iconst 0, 1) := by decide +kernel
theorem dX6_billet_41 : decode cX6_billet 41 = .ok (.ireturn, 1) := by decide +kernel
theorem dX6_billet_42 : decode cX6_billet 42 = .ok (.aload_n 0, 1) := by decide +kernel
theorem dX6_billet_43 : decode cX6_billet 43 = .ok (.getfield 22, 3) := by decide +kernel
theorem dX6_billet_46 : decode cX6_billet 46 = .ok (.aload_n 0, 1) := by decide +kernel
theorem dX6_billet_47 : decode cX6_billet 47 = .ok (.getfield 93, 3) := by decide +kernel
theorem dX6_billet_50 : decode cX6_billet 50 = .ok (.iload_n 1, 1) := by decide +kernel
theorem dX6_billet_51 : decode cX6_billet 51 = .ok (.iastore, 1) := by decide +kernel
theorem dX6_billet_52 : decode cX6_billet 52 = .ok (.iconst 0, 1) := by decide +kernel
theorem dX6_billet_53 : decode cX6_billet 53 = .ok (.istore_n 3, 1) := by decide +kernel
theorem dX6_billet_54 : decode cX6_billet 54 = .ok (.iload_n 3, 1) := by decide +kernel
theorem dX6_billet_55 : decode cX6_billet 55 = .ok (.bipush 8, 2) := by decide +kernel
theorem dX6_billet_57 : decode cX6_billet 57 = .ok (.if_icmp .ge 24, 3) := by decide +kernel
theorem dX6_billet_60 : decode cX6_billet 60 = .ok (.aload_n 0, 1) := by decide +kernel
theorem dX6_billet_61 : decode cX6_billet 61 = .ok (.getfield 25, 3) := by decide +kernel
theorem dX6_billet_64 : decode cX6_billet 64 = .ok (.bipush 8, 2) := by decide +kernel
theorem dX6_billet_66 : decode cX6_billet 66 = .ok (.aload_n 0, 1) := by decide +kernel
theorem dX6_billet_67 : decode cX6_billet 67 = .ok (.getfield 93, 3) := by decide +kernel
theorem dX6_billet_70 : decode cX6_billet 70 = .ok (.imul, 1) := by decide +kernel
theorem dX6_billet_71 : decode cX6_billet 71 = .ok (.iload_n 3, 1) := by decide +kernel
theorem dX6_billet_72 : decode cX6_billet 72 = .ok (.iadd, 1) := by decide +kernel
theorem dX6_billet_73 : decode cX6_billet 73 = .ok (.iload_n 2, 1) := by decide +kernel
theorem dX6_billet_74 : decode cX6_billet 74 = .ok (.iastore, 1) := by decide +kernel
theorem dX6_billet_75 : decode cX6_billet 75 = .ok (.iinc 3 1, 3) := by decide +kernel
theorem dX6_billet_78 : decode cX6_billet 78 = .ok (.goto (-24), 3) := by decide +kernel
theorem dX6_billet_81 : decode cX6_billet 81 = .ok (.aload_n 0, 1) := by decide +kernel
theorem dX6_billet_82 : decode cX6_billet 82 = .ok (.getfield 62, 3) := by decide +kernel
theorem dX6_billet_85 : decode cX6_billet 85 = .ok (.aload_n 0, 1) := by decide +kernel
theorem dX6_billet_86 : decode cX6_billet 86 = .ok (.getfield 93, 3) := by decide +kernel
theorem dX6_billet_89 : decode cX6_billet 89 = .ok (.bipush 8, 2) := by decide +kernel
theorem dX6_billet_91 : decode cX6_billet 91 = .ok (.iload_n 2, 1) := by decide +kernel
theorem dX6_billet_92 : decode cX6_billet 92 = .ok (.imul, 1) := by decide +kernel
theorem dX6_billet_93 : decode cX6_billet 93 = .ok (.iastore, 1) := by decide +kernel
theorem dX6_billet_94 : decode cX6_billet 94 = .ok (.aload_n 0, 1) := by decide +kernel
theorem dX6_billet_95 : decode cX6_billet 95 = .ok (.getfield 31, 3) := by decide +kernel
theorem dX6_billet_98 : decode cX6_billet 98 = .ok (.aload_n 0, 1) := by decide +kernel
theorem dX6_billet_99 : decode cX6_billet 99 = .ok (.getfield 93, 3) := by decide +kernel
theorem dX6_billet_102 : decode cX6_billet 102 = .ok (.bipush 20, 2) := by decide +kernel
theorem dX6_billet_104 : decode cX6_billet 104 = .ok (.iastore, 1) := by decide +kernel
theorem dX6_billet_105 : decode cX6_billet 105 = .ok (.aload_n 0, 1) := by decide +kernel
theorem dX6_billet_106 : decode cX6_billet 106 = .ok (.getfield 34, 3) := by decide +kernel
theorem dX6_billet_109 : decode cX6_billet 109 = .ok (.aload_n 0, 1) := by decide +kernel
theorem dX6_billet_110 : decode cX6_billet 110 = .ok (.getfield 93, 3) := by decide +kernel
theorem dX6_billet_113 : decode cX6_billet 113 = .ok (.bipush 20, 2) := by decide +kernel
theorem dX6_billet_115 : decode cX6_billet 115 = .ok (.iastore, 1) := by decide +kernel
theorem dX6_billet_116 : decode cX6_billet 116 = .ok (.aload_n 0, 1) := by decide +kernel
theorem dX6_billet_117 : decode cX6_billet 117 = .ok (.getfield 37, 3) := by decide +kernel
theorem dX6_billet_120 : decode cX6_billet 120 = .ok (.aload_n 0, 1) := by decide +kernel
theorem dX6_billet_121 : decode cX6_billet 121 = .ok (.getfield 93, 3) := by decide +kernel
theorem dX6_billet_124 : decode cX6_billet 124 = .ok (.bipush 50, 2) := by decide +kernel
theorem dX6_billet_126 : decode cX6_billet 126 = .ok (.iastore, 1) := by decide +kernel
theorem dX6_billet_127 : decode cX6_billet 127 = .ok (.aload_n 0, 1) := by decide +kernel
theorem dX6_billet_128 : decode cX6_billet 128 = .ok (.getfield 50, 3) := by decide +kernel
theorem dX6_billet_131 : decode cX6_billet 131 = .ok (.aload_n 0, 1) := by decide +kernel
theorem dX6_billet_132 : decode cX6_billet 132 = .ok (.getfield 93, 3) := by decide +kernel
theorem dX6_billet_135 : decode cX6_billet 135 = .ok (.sipush 240, 3) := by decide +kernel
theorem dX6_billet_138 : decode cX6_billet 138 = .ok (.iastore, 1) := by decide +kernel
theorem dX6_billet_139 : decode cX6_billet 139 = .ok (.aload_n 0, 1) := by decide +kernel
theorem dX6_billet_140 : decode cX6_billet 140 = .ok (.getfield 53, 3) := by decide +kernel
theorem dX6_billet_143 : decode cX6_billet 143 = .ok (.aload_n 0, 1) := by decide +kernel
theorem dX6_billet_144 : decode cX6_billet 144 = .ok (.getfield 93, 3) := by decide +kernel
theorem dX6_billet_147 : decode cX6_billet 147 = .ok (.iconst (-1), 1) := by decide +kernel
theorem dX6_billet_148 : decode cX6_billet 148 = .ok (.iastore, 1) := by decide +kernel
theorem dX6_billet_149 : decode cX6_billet 149 = .ok (.aload_n 0, 1) := by decide +kernel
theorem dX6_billet_150 : decode cX6_billet 150 = .ok (.dup, 1) := by decide +kernel
theorem dX6_billet_151 : decode cX6_billet 151 = .ok (.getfield 93, 3) := by decide +kernel
theorem dX6_billet_154 : decode cX6_billet 154 = .ok (.iconst 1, 1) := by decide +kernel
theorem dX6_billet_155 : decode cX6_billet 155 = .ok (.iadd, 1) := by decide +kernel
theorem dX6_billet_156 : decode cX6_billet 156 = .ok (.putfield 93, 3) := by decide +kernel
theorem dX6_billet_159 : decode cX6_billet 159 = .ok (.aload_n 0, 1) := by decide +kernel
theorem dX6_billet_160 : decode cX6_billet 160 = .ok (.getfield 93, 3) := by decide +kernel
theorem dX6_billet_163 : decode cX6_billet 163 = .ok (.iconst 1, 1) := by decide +kernel
theorem dX6_billet_164 : decode cX6_billet 164 = .ok (.isub, 1) := by decide +kernel
theorem dX6_billet_165 : decode cX6_billet 165 = .ok (.ireturn, 1) := by decide +kernel
theorem dX6_volume_0 : decode cX6_volume 0 = .ok (.iconst 0, 1) := by decide +kernel
theorem dX6_volume_1 : decode cX6_volume 1 = .ok (.istore_n 2, 1) := by decide +kernel
theorem dX6_volume_2 : decode cX6_volume 2 = .ok (.bipush 8, 2) := by decide +kernel
theorem dX6_volume_4 : decode cX6_volume 4 = .ok (.iload_n 1, 1) := by decide +kernel
theorem dX6_volume_5 : decode cX6_volume 5 = .ok (.imul, 1) := by decide +kernel
theorem dX6_volume_6 : decode cX6_volume 6 = .ok (.istore_n 3, 1) := by decide +kernel
theorem dX6_volume_7 : decode cX6_volume 7 = .ok (.iload_n 3, 1) := by decide +kernel
theorem dX6_volume_8 : decode cX6_volume 8 = .ok (.bipush 8, 2) := by decide +kernel
theorem dX6_volume_10 : decode cX6_volume 10 = .ok (.iload_n 1, 1) := by decide +kernel
theorem dX6_volume_11 : decode cX6_volume 11 = .ok (.imul, 1) := by decide +kernel
theorem dX6_volume_12 : decode cX6_volume 12 = .ok (.bipush 8, 2) := by decide +kernel
theorem dX6_volume_14 : decode cX6_volume 14 = .ok (.iadd, 1) := by decide +kernel
theorem dX6_volume_15 : decode cX6_volume 15 = .ok (.if_icmp .ge 18, 3) := by decide +kernel
theorem dX6_volume_18 : decode cX6_volume 18 = .ok (.iload_n 2, 1) := by decide +kernel
theorem dX6_volume_19 : decode cX6_volume 19 = .ok (.aload_n 0, 1) := by decide +kernel
theorem dX6_volume_20 : decode cX6_volume 20 = .ok (.getfield 25, 3) := by decide +kernel
