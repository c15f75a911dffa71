theorem dX6_over_1 : decode cX6_over 1 = .ok (.getfield 25, 3) := by decide +kernel
theorem dX6_over_4 : decode cX6_over 4 = .ok (.bipush 8, 2) := by decide +kernel
theorem dX6_over_6 : decode cX6_over 6 = .ok (.iload_n 1, 1) := by decide +kernel
theorem dX6_over_7 : decode cX6_over 7 = .ok (.imul, 1) := by decide +kernel
theorem dX6_over_8 : decode cX6_over 8 = .ok (.iload_n 3, 1) := by decide +kernel
theorem dX6_over_9 : decode cX6_over 9 = .ok (.iadd, 1) := by decide +kernel
theorem dX6_over_10 : decode cX6_over 10 = .ok (.iaload, 1) := by decide +kernel
theorem dX6_over_11 : decode cX6_over 11 = .ok (.aload_n 0, 1) := by decide +kernel
theorem dX6_over_12 : decode cX6_over 12 = .ok (.getfield 68, 3) := by decide +kernel
theorem dX6_over_15 : decode cX6_over 15 = .ok (.bipush 8, 2) := by decide +kernel
theorem dX6_over_17 : decode cX6_over 17 = .ok (.iload_n 2, 1) := by decide +kernel
theorem dX6_over_18 : decode cX6_over 18 = .ok (.imul, 1) := by decide +kernel
theorem dX6_over_19 : decode cX6_over 19 = .ok (.iload_n 3, 1) := by decide +kernel
theorem dX6_over_20 : decode cX6_over 20 = .ok (.iadd, 1) := by decide +kernel
theorem dX6_over_21 : decode cX6_over 21 = .ok (.iaload, 1) := by decide +kernel
theorem dX6_over_22 : decode cX6_over 22 = .ok (.isub, 1) := by decide +kernel
theorem dX6_over_23 : decode cX6_over 23 = .ok (.ireturn, 1) := by decide +kernel
set_option maxRecDepth 20000 in
theorem ggX6_giver_X6_over : GoodIn wsX6_giver wsX6_over := goodIn_r _ [5, 6, 7, 8, 9, 10, 11, 12, 13, 14, 15, 16, 17, 18, 19, 20, 21, 22, 23, 24, 25, 26, 27, 28, 29, 30, 31, 32, 33, 34, 35, 36, 37, 38, 39] (by decide +kernel) (by decide +kernel)
set_option maxRecDepth 20000 in
theorem gX6_giver_X6_over : GoodIn wsX6_giver (wsV RX6 150 RX6 yX6_over wsX6_over) := goodIn_app (goodIn_of _ (by decide +kernel)) ggX6_giver_X6_over
theorem dX6_giver_0 : decode cX6_giver 0 = .ok (.iconst 1, 1) := by decide +kernel
theorem dX6_giver_1 : decode cX6_giver 1 = .ok (.istore 4, 2) := by decide +kernel
theorem dX6_giver_3 : decode cX6_giver 3 = .ok (.iload 4, 2) := by decide +kernel
theorem dX6_giver_5 : decode cX6_giver 5 = .ok (.bipush 8, 2) := by decide +kernel
theorem dX6_giver_7 : decode cX6_giver 7 = .ok (.if_icmp .ge 60, 3) := by decide +kernel
theorem dX6_giver_10 : decode cX6_giver 10 = .ok (.iload_n 3, 1) := by decide +kernel
theorem dX6_giver_11 : decode cX6_giver 11 = .ok (.iload 4, 2) := by decide +kernel
theorem dX6_giver_13 : decode cX6_giver 13 = .ok (.if_icmp .lt 21, 3) := by decide +kernel
theorem dX6_giver_16 : decode cX6_giver 16 = .ok (.aload_n 0, 1) := by decide +kernel
theorem dX6_giver_17 : decode cX6_giver 17 = .ok (.iload_n 1, 1) := by decide +kernel
theorem dX6_giver_18 : decode cX6_giver 18 = .ok (.iload_n 2, 1) := by decide +kernel
theorem dX6_giver_19 : decode cX6_giver 19 = .ok (.iload_n 3, 1) := by decide +kernel
theorem dX6_giver_20 : decode cX6_giver 20 = .ok (.iload 4, 2) := by decide +kernel
theorem dX6_giver_22 : decode cX6_giver 22 = .ok (.isub, 1) := by decide +kernel
theorem dX6_giver_23 : decode cX6_giver 23 = .ok (.invokevirtual 150, 3) := by decide +kernel
theorem dX6_giver_26 : decode cX6_giver 26 = .ok (.ifCond .le 8, 3) := by decide +kernel
theorem dX6_giver_29 : decode cX6_giver 29 = .ok (.iload_n 3, 1) := by decide +kernel
theorem dX6_giver_30 : decode cX6_giver 30 = .ok (.iload 4, 2) := by decide +kernel
theorem dX6_giver_32 : decode cX6_giver 32 = .ok (.isub, 1) := by decide +kernel
theorem dX6_giver_33 : decode cX6_giver 33 = .ok (.ireturn, 1) := by decide +kernel
theorem dX6_giver_34 : decode cX6_giver 34 = .ok (.iload_n 3, 1) := by decide +kernel
theorem dX6_giver_35 : decode cX6_giver 35 = .ok (.iload 4, 2) := by decide +kernel
theorem dX6_giver_37 : decode cX6_giver 37 = .ok (.iadd, 1) := by decide +kernel
theorem dX6_giver_38 : decode cX6_giver 38 = .ok (.bipush 8, 2) := by decide +kernel
theorem dX6_giver_40 : decode cX6_giver 40 = .ok (.if_icmp .ge 21, 3) := by decide +kernel
theorem dX6_giver_43 : decode cX6_giver 43 = .ok (.aload_n 0, 1) := by decide +kernel
theorem dX6_giver_44 : decode cX6_giver 44 = .ok (.iload_n 1, 1) := by decide +kernel
theorem dX6_giver_45 : decode cX6_giver 45 = .ok (.iload_n 2, 1) := by decide +kernel
theorem dX6_giver_46 : decode cX6_giver 46 = .ok (.iload_n 3, 1) := by decide +kernel
theorem dX6_giver_47 : decode cX6_giver 47 = .ok (.iload 4, 2) := by decide +kernel
theorem dX6_giver_49 : decode cX6_giver 49 = .ok (.iadd, 1) := by decide +kernel
theorem dX6_giver_50 : decode cX6_giver 50 = .ok (.invokevirtual 150, 3) := by decide +kernel
theorem dX6_giver_53 : decode cX6_giver 53 = .ok (.ifCond .le 8, 3) := by decide +kernel
theorem dX6_giver_56 : decode cX6_giver 56 = .ok (.iload_n 3, 1) := by decide +kernel
theorem dX6_giver_57 : decode cX6_giver 57 = .ok (.iload 4, 2) := by decide +kernel
theorem dX6_giver_59 : decode cX6_giver 59 = .ok (.iadd, 1) := by decide +kernel
theorem dX6_giver_60 : decode cX6_giver 60 = .ok (.ireturn, 1) := by decide +kernel
theorem dX6_giver_61 : decode cX6_giver 61 = .ok (.iinc 4 1, 3) := by decide +kernel
theorem dX6_giver_64 : decode cX6_giver 64 = .ok (.goto (-61), 3) := by decide +kernel
theorem dX6_giver_67 : decode cX6_giver 67 = .ok (.iconst (-1), 1) := by decide +kernel
theorem dX6_giver_68 : decode cX6_giver 68 = .ok (.ireturn, 1) := by decide +kernel
set_option maxRecDepth 20000 in
theorem ggX6_fills_X6_giver : GoodIn wsX6_fills wsX6_giver := goodIn_r _ [6, 7, 8, 9, 5, 10, 1, 11, 12, 13, 14, 15, 16, 17, 18, 19, 20, 21, 22, 23, 24, 25, 26, 27, 28, 29, 30, 31, 32, 33, 34, 35, 36, 37, 38, 39, 40, 41, 42, 43] (by decide +kernel) (by decide +kernel)
set_option maxRecDepth 20000 in
theorem gX6_fills_X6_giver : GoodIn wsX6_fills (wsV RX6 154 RX6 yX6_giver wsX6_giver) := goodIn_app (goodIn_of _ (by decide +kernel)) ggX6_fills_X6_giver
set_option maxRecDepth 20000 in
theorem ggX6_fills_X6_over : GoodIn wsX6_fills wsX6_over := goodIn_r _ [10, 1, 11, 12, 13, 14, 15, 16, 17, 18, 19, 20, 21, 22, 23, 24, 25, 26, 27, 28, 29, 30, 31, 32, 33, 34, 35, 36, 37, 38, 39, 40, 41, 42, 43] (by decide +kernel) (by decide +kernel)
set_option maxRecDepth 20000 in
theorem gX6_fills_X6_over : GoodIn wsX6_fills (wsV RX6 150 RX6 yX6_over wsX6_over) := goodIn_app (goodIn_of _ (by decide +kernel)) ggX6_fills_X6_over
theorem dX6_fills_0 : decode cX6_fills 0 = .ok (.iload_n 3, 1) := by decide +kernel
theorem dX6_fills_1 : decode cX6_fills 1 = .ok (.istore 4, 2) := by decide +kernel
theorem dX6_fills_3 : decode cX6_fills 3 = .ok (.iconst 0, 1) := by decide +kernel
theorem dX6_fills_4 : decode cX6_fills 4 = .ok (.istore 5, 2) := by decide +kernel
theorem dX6_fills_6 : decode cX6_fills 6 = .ok (.iload 5, 2) := by decide +kernel
theorem dX6_fills_8 : decode cX6_fills 8 = .ok (.bipush 8, 2) := by decide +kernel
theorem dX6_fills_10 : decode cX6_fills 10 = .ok (.if_icmp .ge 89, 3) := by decide +kernel
theorem dX6_fills_13 : decode cX6_fills 13 = .ok (.aload_n 0, 1) := by decide +kernel
theorem dX6_fills_14 : decode cX6_fills 14 = .ok (.iload_n 1, 1) := by decide +kernel
theorem dX6_fills_15 : decode cX6_fills 15 = .ok (.iload_n 2, 1) := by decide +kernel
theorem dX6_fills_16 : decode cX6_fills 16 = .ok (.iload 5, 2) := by decide +kernel
theorem dX6_fills_18 : decode cX6_fills 18 = .ok (.invokevirtual 154, 3) := by decide +kernel
theorem dX6_fills_21 : decode cX6_fills 21 = .ok (.istore 6, 2) := by decide +kernel
theorem dX6_fills_23 : decode cX6_fills 23 = .ok (.iload 4, 2) := by decide +kernel
theorem dX6_fills_25 : decode cX6_fills 25 = .ok (.ifCond .le 68, 3) := by decide +kernel
theorem dX6_fills_28 : decode cX6_fills 28 = .ok (.iload 6, 2) := by decide +kernel
theorem dX6_fills_30 : decode cX6_fills 30 = .ok (.iconst (-1), 1) := by decide +kernel
theorem dX6_fills_31 : decode cX6_fills 31 = .ok (.if_icmp .eq 62, 3) := by decide +kernel
theorem dX6_fills_34 : decode cX6_fills 34 = .ok (.aload_n 0, 1) := by decide +kernel
theorem dX6_fills_35 : decode cX6_fills 35 = .ok (.iload_n 1, 1) := by decide +kernel
theorem dX6_fills_36 : decode cX6_fills 36 = .ok (.iload_n 2, 1) := by decide +kernel
theorem dX6_fills_37 : decode cX6_fills 37 = .ok (.iload 5, 2) := by decide +kernel
theorem dX6_fills_39 : decode cX6_fills 39 = .ok (.invokevirtual 150, 3) := by decide +kernel
theorem dX6_fills_42 : decode cX6_fills 42 = .ok (.ifCond .ge 51, 3) := by decide +kernel
theorem dX6_fills_45 : decode cX6_fills 45 = .ok (.aload_n 0, 1) := by decide +kernel
theorem dX6_fills_46 : decode cX6_fills 46 = .ok (.getfield 25, 3) := by decide +kernel
theorem dX6_fills_49 : decode cX6_fills 49 = .ok (.bipush 8, 2) := by decide +kernel
theorem dX6_fills_51 : decode cX6_fills 51 = .ok (.iload_n 1, 1) := by decide +kernel
theorem dX6_fills_52 : decode cX6_fills 52 = .ok (.imul, 1) := by decide +kernel
theorem dX6_fills_53 : decode cX6_fills 53 = .ok (.iload 6, 2) := by decide +kernel
theorem dX6_fills_55 : decode cX6_fills 55 = .ok (.iadd, 1) := by decide +kernel
theorem dX6_fills_56 : decode cX6_fills 56 = .ok (.dup2, 1) := by decide +kernel
theorem dX6_fills_57 : decode cX6_fills 57 = .ok (.iaload, 1) := by decide +kernel
theorem dX6_fills_58 : decode cX6_fills 58 = .ok (.iconst 1, 1) := by decide +kernel
theorem dX6_fills_59 : decode cX6_fills 59 = .ok (.isub, 1) := by decide +kernel
theorem dX6_fills_60 : decode cX6_fills 60 = .ok (.iastore, 1) := by decide +kernel
theorem dX6_fills_61 : decode cX6_fills 61 = .ok (.aload_n 0, 1) := by decide +kernel
theorem dX6_fills_62 : decode cX6_fills 62 = .ok (.getfield 25, 3) := by decide +kernel
theorem dX6_fills_65 : decode cX6_fills 65 = .ok (.bipush 8, 2) := by decide +kernel
theorem dX6_fills_67 : decode cX6_fills 67 = .ok (.iload_n 1, 1) := by decide +kernel
theorem dX6_fills_68 : decode cX6_fills 68 = .ok (.imul, 1) := by decide +kernel
theorem dX6_fills_69 : decode cX6_fills 69 = .ok (.iload 5, 2) := by decide +kernel
theorem dX6_fills_71 : decode cX6_fills 71 = .ok (.iadd, 1) := by decide +kernel
theorem dX6_fills_72 : decode cX6_fills 72 = .ok (.dup2, 1) := by decide +kernel
theorem dX6_fills_73 : decode cX6_fills 73 = .ok (.iaload, 1) := by decide +kernel
theorem dX6_fills_74 : decode cX6_fills 74 = .ok (.iconst 1, 1) := by decide +kernel
theorem dX6_fills_75 : decode cX6_fills 75 = .ok (.iadd, 1) := by decide +kernel
theorem dX6_fills_76 : decode cX6_fills 76 = .ok (.iastore, 1) := by decide +kernel
theorem dX6_fills_77 : decode cX6_fills 77 = .ok (.iinc 4 (-1), 3) := by decide +kernel
theorem dX6_fills_80 : decode cX6_fills 80 = .ok (.aload_n 0, 1) := by decide +kernel
theorem dX6_fills_81 : decode cX6_fills 81 = .ok (.iload_n 1, 1) := by decide +kernel
theorem dX6_fills_82 : decode cX6_fills 82 = .ok (.iload_n 2, 1) := by decide +kernel
theorem dX6_fills_83 : decode cX6_fills 83 = .ok (.iload 5, 2) := by decide +kernel
theorem dX6_fills_85 : decode cX6_fills 85 = .ok (.invokevirtual 154, 3) := by decide +kernel
theorem dX6_fills_88 : decode cX6_fills 88 = .ok (.istore 6, 2) := by decide +kernel
theorem dX6_fills_90 : decode cX6_fills 90 = .ok (.goto (-67), 3) := by decide +kernel
theorem dX6_fills_93 : decode cX6_fills 93 = .ok (.iinc 5 1, 3) := by decide +kernel
theorem dX6_fills_96 : decode cX6_fills 96 = .ok (.goto (-90), 3) := by decide +kernel
theorem dX6_fills_99 : decode cX6_fills 99 = .ok (.return_, 1) := by decide +kernel
set_option maxRecDepth 20000 in
theorem ggX6_press_X6_isBillet : GoodIn wsX6_press wsX6_isBillet := goodIn_r _ [10, 11, 12, 13, 9, 14, 47, 48, 49, 50, 51, 52, 53, 54, 55, 56, 57, 58, 59, 60, 61, 62, 63, 64, 65, 66, 67, 68, 69, 70, 71, 72, 73, 74, 75, 76, 77, 78] (by decide +kernel) (by decide +kernel)
set_option maxRecDepth 20000 in
theorem gX6_press_X6_isBillet : GoodIn wsX6_press (wsV RX6 114 RX6 yX6_isBillet wsX6_isBillet) := goodIn_app (goodIn_of _ (by decide +kernel)) ggX6_press_X6_isBillet
set_option maxRecDepth 20000 in
theorem ggX6_press_X6_isDie : GoodIn wsX6_press wsX6_isDie := goodIn_r _ [18, 19, 12, 13, 9, 14, 47, 48, 49, 50, 51, 52, 53, 54, 55, 56, 57, 58, 59, 60, 61, 62, 63, 64, 65, 66, 67, 68, 69, 70, 71, 72, 73, 74, 75, 76, 77, 78] (by decide +kernel) (by decide +kernel)
set_option maxRecDepth 20000 in
theorem gX6_press_X6_isDie : GoodIn wsX6_press (wsV RX6 147 RX6 yX6_isDie wsX6_isDie) := goodIn_app (goodIn_of _ (by decide +kernel)) ggX6_press_X6_isDie
set_option maxRecDepth 20000 in
theorem ggX6_press_X6_in : GoodIn wsX6_press wsX6_in := goodIn_r _ [14] (by decide +kernel) (by decide +kernel)
set_option maxRecDepth 20000 in
theorem gX6_press_X6_in : GoodIn wsX6_press (va_wsS RX6 96 yX6_in wsX6_in) := goodIn_app (goodIn_of _ (by decide +kernel)) ggX6_press_X6_in
set_option maxRecDepth 20000 in
theorem ggX6_press_X6_goes : GoodIn wsX6_press wsX6_goes := goodIn_r _ [23, 24, 47, 48, 49, 50, 51, 52, 53, 54, 55, 56, 57, 58, 59, 60, 61, 62, 63, 64, 65, 66, 67, 68, 69, 70, 71, 72, 73, 74, 75, 76, 77, 78] (by decide +kernel) (by decide +kernel)
set_option maxRecDepth 20000 in
theorem gX6_press_X6_goes : GoodIn wsX6_press (wsV RX6 103 RX6 yX6_goes wsX6_goes) := goodIn_app (goodIn_of _ (by decide +kernel)) ggX6_press_X6_goes
set_option maxRecDepth 20000 in
theorem ggX6_press_X6_fills : GoodIn wsX6_press wsX6_fills := goodIn_r _ [28, 4, 29, 30, 31, 9, 32, 33, 34, 35, 36, 37, 47, 48, 49, 50, 51, 52, 53, 54, 55, 56, 57, 58, 59, 60, 61, 62, 63, 64, 65, 66, 67, 68, 69, 70, 71, 72, 73, 74, 75, 76, 77, 78] (by decide +kernel) (by decide +kernel)
set_option maxRecDepth 20000 in
theorem gX6_press_X6_fills : GoodIn wsX6_press (wsV RX6 157 RX6 yX6_fills wsX6_fills) := goodIn_app (goodIn_of _ (by decide +kernel)) ggX6_press_X6_fills
set_option maxRecDepth 20000 in
theorem ggX6_press_X6_cools : GoodIn wsX6_press wsX6_cools := goodIn_r _ [41, 42, 43, 44, 45, 9, 46, 3, 47, 48, 49, 50, 51, 52, 53, 54, 55, 56, 57, 58, 59, 60, 61, 62, 63, 64, 65, 66, 67, 68, 69, 70, 71, 72, 73, 74, 75, 76, 77, 78] (by decide +kernel) (by decide +kernel)
set_option maxRecDepth 20000 in
theorem gX6_press_X6_cools : GoodIn wsX6_press (wsV RX6 138 RX6 yX6_cools wsX6_cools) := goodIn_app (goodIn_of _ (by decide +kernel)) ggX6_press_X6_cools
set_option maxRecDepth 20000 in
theorem ggX6_press_X6_over : GoodIn wsX6_press wsX6_over := goodIn_r _ [36, 4, 37, 47, 48, 49, 50, 51, 52, 53, 54, 55, 56, 57, 58, 59, 60, 61, 62, 63, 64, 65, 66, 67, 68, 69, 70, 71, 72, 73, 74, 75, 76, 77, 78] (by decide +kernel) (by decide +kernel)
set_option maxRecDepth 20000 in
theorem gX6_press_X6_over : GoodIn wsX6_press (wsV RX6 150 RX6 yX6_over wsX6_over) := goodIn_app (goodIn_of _ (by decide +kernel)) ggX6_press_X6_over
theorem dX6_press_0 : decode cX6_press 0 = .ok (.aload_n 0, 1) := by decide +kernel
theorem dX6_press_1 : decode cX6_press 1 = .ok (.iload_n 1, 1) := by decide +kernel
theorem dX6_press_2 : decode cX6_press 2 = .ok (.invokevirtual 114, 3) := by decide +kernel
theorem dX6_press_5 : decode cX6_press 5 = .ok (.ifCond .eq 15, 3) := by decide +kernel
theorem dX6_press_8 : decode cX6_press 8 = .ok (.aload_n 0, 1) := by decide +kernel
theorem dX6_press_9 : decode cX6_press 9 = .ok (.iload_n 2, 1) := by decide +kernel
theorem dX6_press_10 : decode cX6_press 10 = .ok (.invokevirtual 147, 3) := by decide +kernel
theorem dX6_press_13 : decode cX6_press 13 = .ok (.ifCond .eq 7, 3) := by decide +kernel
theorem dX6_press_16 : decode cX6_press 16 = .ok (.iconst 1, 1) := by decide +kernel
theorem dX6_press_17 : decode cX6_press 17 = .ok (.goto 4, 3) := by decide +kernel
theorem dX6_press_20 : decode cX6_press 20 = .ok (.iconst 0, 1) := by decide +kernel
theorem dX6_press_21 : decode cX6_press 21 = .ok (.istore 4, 2) := by decide +kernel
theorem dX6_press_23 : decode cX6_press 23 = .ok (.aload_n 0, 1) := by decide +kernel
theorem dX6_press_24 : decode cX6_press 24 = .ok (.iload 4, 2) := by decide +kernel
theorem dX6_press_26 : decode cX6_press 26 = .ok (.iload_n 3, 1) := by decide +kernel
theorem dX6_press_27 : decode cX6_press 27 = .ok (.iconst 1, 1) := by decide +kernel
theorem dX6_press_28 : decode cX6_press 28 = .ok (.bipush 50, 2) := by decide +kernel
theorem dX6_press_30 : decode cX6_press 30 = .ok (.invokestatic 96, 3) := by decide +kernel
theorem dX6_press_33 : decode cX6_press 33 = .ok (.iload 4, 2) := by decide +kernel
theorem dX6_press_35 : decode cX6_press 35 = .ok (.ifCond .eq 43, 3) := by decide +kernel
theorem dX6_press_38 : decode cX6_press 38 = .ok (.aload_n 0, 1) := by decide +kernel
theorem dX6_press_39 : decode cX6_press 39 = .ok (.getfield 46, 3) := by decide +kernel
theorem dX6_press_42 : decode cX6_press 42 = .ok (.iload 4, 2) := by decide +kernel
theorem dX6_press_44 : decode cX6_press 44 = .ok (.ifCond .eq 7, 3) := by decide +kernel
theorem dX6_press_47 : decode cX6_press 47 = .ok (.iload_n 1, 1) := by decide +kernel
theorem dX6_press_48 : decode cX6_press 48 = .ok (.goto 4, 3) := by decide +kernel
theorem dX6_press_51 : decode cX6_press 51 = .ok (.iconst 0, 1) := by decide +kernel
theorem dX6_press_52 : decode cX6_press 52 = .ok (.baload, 1) := by decide +kernel
theorem dX6_press_53 : decode cX6_press 53 = .ok (.ifCond .ne 25, 3) := by decide +kernel
theorem dX6_press_56 : decode cX6_press 56 = .ok (.aload_n 0, 1) := by decide +kernel
theorem dX6_press_57 : decode cX6_press 57 = .ok (.getfield 71, 3) := by decide +kernel
theorem dX6_press_60 : decode cX6_press 60 = .ok (.iload 4, 2) := by decide +kernel
theorem dX6_press_62 : decode cX6_press 62 = .ok (.ifCond .eq 7, 3) := by decide +kernel
theorem dX6_press_65 : decode cX6_press 65 = .ok (.iload_n 2, 1) := by decide +kernel
theorem dX6_press_66 : decode cX6_press 66 = .ok (.goto 4, 3) := by decide +kernel
theorem dX6_press_69 : decode cX6_press 69 = .ok (.iconst 0, 1) := by decide +kernel
theorem dX6_press_70 : decode cX6_press 70 = .ok (.iaload, 1) := by decide +kernel
theorem dX6_press_71 : decode cX6_press 71 = .ok (.ifCond .le 7, 3) := by decide +kernel
theorem dX6_press_74 : decode cX6_press 74 = .ok (.iconst 1, 1) := by decide +kernel
theorem dX6_press_75 : decode cX6_press 75 = .ok (.goto 4, 3) := by decide +kernel
theorem dX6_press_78 : decode cX6_press 78 = .ok (.iconst 0, 1) := by decide +kernel
theorem dX6_press_79 : decode cX6_press 79 = .ok (.invokevirtual 103, 3) := by decide +kernel
theorem dX6_press_82 : decode cX6_press 82 = .ok (.ifCond .ne 5, 3) := by decide +kernel
theorem dX6_press_85 : decode cX6_press 85 = .ok (.iconst 0, 1) := by decide +kernel
theorem dX6_press_86 : decode cX6_press 86 = .ok (.ireturn, 1) := by decide +kernel
theorem dX6_press_87 : decode cX6_press 87 = .ok (.aload_n 0, 1) := by decide +kernel
theorem dX6_press_88 : decode cX6_press 88 = .ok (.getfield 34, 3) := by decide +kernel
theorem dX6_press_91 : decode cX6_press 91 = .ok (.iload_n 1, 1) := by decide +kernel
theorem dX6_press_92 : decode cX6_press 92 = .ok (.iaload, 1) := by decide +kernel
theorem dX6_press_93 : decode cX6_press 93 = .ok (.sipush 700, 3) := by decide +kernel
theorem dX6_press_96 : decode cX6_press 96 = .ok (.if_icmp .ge 12, 3) := by decide +kernel
theorem dX6_press_99 : decode cX6_press 99 = .ok (.aload_n 0, 1) := by decide +kernel
theorem dX6_press_100 : decode cX6_press 100 = .ok (.getfield 46, 3) := by decide +kernel
theorem dX6_press_103 : decode cX6_press 103 = .ok (.iload_n 1, 1) := by decide +kernel
theorem dX6_press_104 : decode cX6_press 104 = .ok (.iconst 1, 1) := by decide +kernel
theorem dX6_press_105 : decode cX6_press 105 = .ok (.bastore, 1) := by decide +kernel
theorem dX6_press_106 : decode cX6_press 106 = .ok (.iconst (-1), 1) := by decide +kernel
theorem dX6_press_107 : decode cX6_press 107 = .ok (.ireturn, 1) := by decide +kernel
theorem dX6_press_108 : decode cX6_press 108 = .ok (.aload_n 0, 1) := by decide +kernel
theorem dX6_press_109 : decode cX6_press 109 = .ok (.getfield 34, 3) := by decide +kernel
theorem dX6_press_112 : decode cX6_press 112 = .ok (.iload_n 1, 1) := by decide +kernel
theorem dX6_press_113 : decode cX6_press 113 = .ok (.iaload, 1) := by decide +kernel
theorem dX6_press_114 : decode cX6_press 114 = .ok (.sipush 900, 3) := by decide +kernel
theorem dX6_press_117 : decode cX6_press 117 = .ok (.if_icmp .ge 7, 3) := by decide +kernel
theorem dX6_press_120 : decode cX6_press 120 = .ok (.iconst 3, 1) := by decide +kernel
theorem dX6_press_121 : decode cX6_press 121 = .ok (.goto 4, 3) := by decide +kernel
theorem dX6_press_124 : decode cX6_press 124 = .ok (.iconst 1, 1) := by decide +kernel
theorem dX6_press_125 : decode cX6_press 125 = .ok (.istore 5, 2) := by decide +kernel
theorem dX6_press_127 : decode cX6_press 127 = .ok (.aload_n 0, 1) := by decide +kernel
theorem dX6_press_128 : decode cX6_press 128 = .ok (.getfield 71, 3) := by decide +kernel
theorem dX6_press_131 : decode cX6_press 131 = .ok (.iload_n 2, 1) := by decide +kernel
theorem dX6_press_132 : decode cX6_press 132 = .ok (.aload_n 0, 1) := by decide +kernel
theorem dX6_press_133 : decode cX6_press 133 = .ok (.getfield 71, 3) := by decide +kernel
theorem dX6_press_136 : decode cX6_press 136 = .ok (.iload_n 2, 1) := by decide +kernel
theorem dX6_press_137 : decode cX6_press 137 = .ok (.iaload, 1) := by decide +kernel
theorem dX6_press_138 : decode cX6_press 138 = .ok (.iload 5, 2) := by decide +kernel
theorem dX6_press_140 : decode cX6_press 140 = .ok (.if_icmp .ge 7, 3) := by decide +kernel
theorem dX6_press_143 : decode cX6_press 143 = .ok (.iconst 0, 1) := by decide +kernel
theorem dX6_press_144 : decode cX6_press 144 = .ok (.goto 12, 3) := by decide +kernel
theorem dX6_press_147 : decode cX6_press 147 = .ok (.aload_n 0, 1) := by decide +kernel
theorem dX6_press_148 : decode cX6_press 148 = .ok (.getfield 71, 3) := by decide +kernel
theorem dX6_press_151 : decode cX6_press 151 = .ok (.iload_n 2, 1) := by decide +kernel
theorem dX6_press_152 : decode cX6_press 152 = .ok (.iaload, 1) := by decide +kernel
theorem dX6_press_153 : decode cX6_press 153 = .ok (.iload 5, 2) := by decide +kernel
theorem dX6_press_155 : decode cX6_press 155 = .ok (.isub, 1) := by decide +kernel
theorem dX6_press_156 : decode cX6_press 156 = .ok (.iastore, 1) := by decide +kernel
theorem dX6_press_157 : decode cX6_press 157 = .ok (.aload_n 0, 1) := by decide +kernel
theorem dX6_press_158 : decode cX6_press 158 = .ok (.iload_n 1, 1) := by decide +kernel
theorem dX6_press_159 : decode cX6_press 159 = .ok (.iload_n 2, 1) := by decide +kernel
theorem dX6_press_160 : decode cX6_press 160 = .ok (.iload_n 3, 1) := by decide +kernel
theorem dX6_press_161 : decode cX6_press 161 = .ok (.aload_n 0, 1) := by decide +kernel
theorem dX6_press_162 : decode cX6_press 162 = .ok (.getfield 34, 3) := by decide +kernel
theorem dX6_press_165 : decode cX6_press 165 = .ok (.iload_n 1, 1) := by decide +kernel
theorem dX6_press_166 : decode cX6_press 166 = .ok (.iaload, 1) := by decide +kernel
theorem dX6_press_167 : decode cX6_press 167 = .ok (.imul, 1) := by decide +kernel
theorem dX6_press_168 : decode cX6_press 168 = .ok (.sipush 1000, 3) := by decide +kernel
theorem dX6_press_171 : decode cX6_press 171 = .ok (.idiv, 1) := by decide +kernel
theorem dX6_press_172 : decode cX6_press 172 = .ok (.invokevirtual 157, 3) := by decide +kernel
theorem dX6_press_175 : decode cX6_press 175 = .ok (.aload_n 0, 1) := by decide +kernel
theorem dX6_press_176 : decode cX6_press 176 = .ok (.iload_n 1, 1) := by decide +kernel
theorem dX6_press_177 : decode cX6_press 177 = .ok (.invokevirtual 138, 3) := by decide +kernel
theorem dX6_press_180 : decode cX6_press 180 = .ok (.iconst 0, 1) := by decide +kernel
theorem dX6_press_181 : decode cX6_press 181 = .ok (.istore 6, 2) := by decide +kernel
theorem dX6_press_183 : decode cX6_press 183 = .ok (.iconst 0, 1) := by decide +kernel
theorem dX6_press_184 : decode cX6_press 184 = .ok (.istore 7, 2) := by decide +kernel
theorem dX6_press_186 : decode cX6_press 186 = .ok (.iload 7, 2) := by decide +kernel
theorem dX6_press_188 : decode cX6_press 188 = .ok (.bipush 8, 2) := by decide +kernel
theorem dX6_press_190 : decode cX6_press 190 = .ok (.if_icmp .ge 30, 3) := by decide +kernel
theorem dX6_press_193 : decode cX6_press 193 = .ok (.iload 6, 2) := by decide +kernel
theorem dX6_press_195 : decode cX6_press 195 = .ok (.aload_n 0, 1) := by decide +kernel
theorem dX6_press_196 : decode cX6_press 196 = .ok (.iload_n 1, 1) := by decide +kernel
theorem dX6_press_197 : decode cX6_press 197 = .ok (.iload_n 2, 1) := by decide +kernel
theorem dX6_press_198 : decode cX6_press 198 = .ok (.iload 7, 2) := by decide +kernel
theorem dX6_press_200 : decode cX6_press 200 = .ok (.invokevirtual 150, 3) := by decide +kernel
theorem dX6_press_203 : decode cX6_press 203 = .ok (.ifCond .ge 7, 3) := by decide +kernel
theorem dX6_press_206 : decode cX6_press 206 = .ok (.iconst 1, 1) := by decide +kernel
theorem dX6_press_207 : decode cX6_press 207 = .ok (.goto 4, 3) := by decide +kernel
theorem dX6_press_210 : decode cX6_press 210 = .ok (.iconst 0, 1) := by decide +kernel
theorem dX6_press_211 : decode cX6_press 211 = .ok (.iadd, 1) := by decide +kernel
theorem dX6_press_212 : decode cX6_press 212 = .ok (.istore 6, 2) := by decide +kernel
theorem dX6_press_214 : decode cX6_press 214 = .ok (.iinc 7 1, 3) := by decide +kernel
theorem dX6_press_217 : decode cX6_press 217 = .ok (.goto (-31), 3) := by decide +kernel
theorem dX6_press_220 : decode cX6_press 220 = .ok (.iconst 0, 1) := by decide +kernel
theorem dX6_press_221 : decode cX6_press 221 = .ok (.istore 7, 2) := by decide +kernel
theorem dX6_press_223 : decode cX6_press 223 = .ok (.iload 7, 2) := by decide +kernel
theorem dX6_press_225 : decode cX6_press 225 = .ok (.bipush 8, 2) := by decide +kernel
theorem dX6_press_227 : decode cX6_press 227 = .ok (.if_icmp .ge 52, 3) := by decide +kernel
theorem dX6_press_230 : decode cX6_press 230 = .ok (.iload 6, 2) := by decide +kernel
theorem dX6_press_232 : decode cX6_press 232 = .ok (.ifCond .ne 47, 3) := by decide +kernel
theorem dX6_press_235 : decode cX6_press 235 = .ok (.aload_n 0, 1) := by decide +kernel
theorem dX6_press_236 : decode cX6_press 236 = .ok (.iload_n 1, 1) := by decide +kernel
theorem dX6_press_237 : decode cX6_press 237 = .ok (.iload_n 2, 1) := by decide +kernel
theorem dX6_press_238 : decode cX6_press 238 = .ok (.iload 7, 2) := by decide +kernel
theorem dX6_press_240 : decode cX6_press 240 = .ok (.invokevirtual 150, 3) := by decide +kernel
theorem dX6_press_243 : decode cX6_press 243 = .ok (.istore 8, 2) := by decide +kernel
theorem dX6_press_245 : decode cX6_press 245 = .ok (.aload_n 0, 1) := by decide +kernel
theorem dX6_press_246 : decode cX6_press 246 = .ok (.getfield 25, 3) := by decide +kernel
theorem dX6_press_249 : decode cX6_press 249 = .ok (.bipush 8, 2) := by decide +kernel
theorem dX6_press_251 : decode cX6_press 251 = .ok (.iload_n 1, 1) := by decide +kernel
theorem dX6_press_252 : decode cX6_press 252 = .ok (.imul, 1) := by decide +kernel
theorem dX6_press_253 : decode cX6_press 253 = .ok (.iload 7, 2) := by decide +kernel
theorem dX6_press_255 : decode cX6_press 255 = .ok (.iadd, 1) := by decide +kernel
theorem dX6_press_256 : decode cX6_press 256 = .ok (.dup2, 1) := by decide +kernel
theorem dX6_press_257 : decode cX6_press 257 = .ok (.iaload, 1) := by decide +kernel
theorem dX6_press_258 : decode cX6_press 258 = .ok (.iload 8, 2) := by decide +kernel
theorem dX6_press_260 : decode cX6_press 260 = .ok (.isub, 1) := by decide +kernel
theorem dX6_press_261 : decode cX6_press 261 = .ok (.iastore, 1) := by decide +kernel
theorem dX6_press_262 : decode cX6_press 262 = .ok (.aload_n 0, 1) := by decide +kernel
theorem dX6_press_263 : decode cX6_press 263 = .ok (.getfield 65, 3) := by decide +kernel
theorem dX6_press_266 : decode cX6_press 266 = .ok (.iload_n 1, 1) := by decide +kernel
theorem dX6_press_267 : decode cX6_press 267 = .ok (.dup2, 1) := by decide +kernel
theorem dX6_press_268 : decode cX6_press 268 = .ok (.iaload, 1) := by decide +kernel
theorem dX6_press_269 : decode cX6_press 269 = .ok (.iload 8, 2) := by decide +kernel
theorem dX6_press_271 : decode cX6_press 271 = .ok (.iadd, 1) := by decide +kernel
theorem dX6_press_272 : decode cX6_press 272 = .ok (.iastore, 1) := by decide +kernel
theorem dX6_press_273 : decode cX6_press 273 = .ok (.iinc 7 1, 3) := by decide +kernel
theorem dX6_press_276 : decode cX6_press 276 = .ok (.goto (-53), 3) := by decide +kernel
theorem dX6_press_279 : decode cX6_press 279 = .ok (.iload 6, 2) := by decide +kernel
theorem dX6_press_281 : decode cX6_press 281 = .ok (.ireturn, 1) := by decide +kernel
theorem dX6_canQuench_0 : decode cX6_canQuench 0 = .ok (.aload_n 0, 1) := by decide +kernel
theorem dX6_canQuench_1 : decode cX6_canQuench 1 = .ok (.getfield 161, 3) := by decide +kernel
theorem dX6_canQuench_4 : decode cX6_canQuench 4 = .ok (.bipush 20, 2) := by decide +kernel
theorem dX6_canQuench_6 : decode cX6_canQuench 6 = .ok (.if_icmp .ge 7, 3) := by decide +kernel
theorem dX6_canQuench_9 : decode cX6_canQuench 9 = .ok (.iconst 1, 1) := by decide +kernel
theorem dX6_canQuench_10 : decode cX6_canQuench 10 = .ok (.goto 4, 3) := by decide +kernel
theorem dX6_canQuench_13 : decode cX6_canQuench 13 = .ok (.iconst 0, 1) := by decide +kernel
theorem dX6_canQuench_14 : decode cX6_canQuench 14 = .ok (.istore_n 2, 1) := by decide +kernel
theorem dX6_canQuench_15 : decode cX6_canQuench 15 = .ok (.iconst 0, 1) := by decide +kernel
theorem dX6_canQuench_16 : decode cX6_canQuench 16 = .ok (.istore_n 3, 1) := by decide +kernel
theorem dX6_canQuench_17 : decode cX6_canQuench 17 = .ok (.iload_n 3, 1) := by decide +kernel
theorem dX6_canQuench_18 : decode cX6_canQuench 18 = .ok (.aload_n 0, 1) := by decide +kernel
theorem dX6_canQuench_19 : decode cX6_canQuench 19 = .ok (.getfield 93, 3) := by decide +kernel
theorem dX6_canQuench_22 : decode cX6_canQuench 22 = .ok (.if_icmp .ge 48, 3) := by decide +kernel
theorem dX6_canQuench_25 : decode cX6_canQuench 25 = .ok (.iload_n 2, 1) := by decide +kernel
theorem dX6_canQuench_26 : decode cX6_canQuench 26 = .ok (.ifCond .eq 36, 3) := by decide +kernel
theorem dX6_canQuench_29 : decode cX6_canQuench 29 = .ok (.iload_n 1, 1) := by decide +kernel
theorem dX6_canQuench_30 : decode cX6_canQuench 30 = .ok (.iload_n 3, 1) := by decide +kernel
theorem dX6_canQuench_31 : decode cX6_canQuench 31 = .ok (.ishr, 1) := by decide +kernel
theorem dX6_canQuench_32 : decode cX6_canQuench 32 = .ok (.iconst 1, 1) := by decide +kernel
theorem dX6_canQuench_33 : decode cX6_canQuench 33 = .ok (.iand, 1) := by decide +kernel
theorem dX6_canQuench_34 : decode cX6_canQuench 34 = .ok (.ifCond .eq 24, 3) := by decide +kernel
theorem dX6_canQuench_37 : decode cX6_canQuench 37 = .ok (.aload_n 0, 1) := by decide +kernel
theorem dX6_canQuench_38 : decode cX6_canQuench 38 = .ok (.getfield 34, 3) := by decide +kernel
theorem dX6_canQuench_41 : decode cX6_canQuench 41 = .ok (.iload_n 3, 1) := by decide +kernel
theorem dX6_canQuench_42 : decode cX6_canQuench 42 = .ok (.iaload, 1) := by decide +kernel
theorem dX6_canQuench_43 : decode cX6_canQuench 43 = .ok (.sipush 800, 3) := by decide +kernel
theorem dX6_canQuench_46 : decode cX6_canQuench 46 = .ok (.if_icmp .lt 16, 3) := by decide +kernel
theorem dX6_canQuench_49 : decode cX6_canQuench 49 = .ok (.aload_n 0, 1) := by decide +kernel
theorem dX6_canQuench_50 : decode cX6_canQuench 50 = .ok (.getfield 46, 3) := by decide +kernel
theorem dX6_canQuench_53 : decode cX6_canQuench 53 = .ok (.iload_n 3, 1) := by decide +kernel
theorem dX6_canQuench_54 : decode cX6_canQuench 54 = .ok (.baload, 1) := by decide +kernel
theorem dX6_canQuench_55 : decode cX6_canQuench 55 = .ok (.ifCond .ne 7, 3) := by decide +kernel
theorem dX6_canQuench_58 : decode cX6_canQuench 58 = .ok (.iconst 1, 1) := by decide +kernel
theorem dX6_canQuench_59 : decode cX6_canQuench 59 = .ok (.goto 4, 3) := by decide +kernel
theorem dX6_canQuench_62 : decode cX6_canQuench 62 = .ok (.iconst 0, 1) := by decide +kernel
theorem dX6_canQuench_63 : decode cX6_canQuench 63 = .ok (.istore_n 2, 1) := by decide +kernel
theorem dX6_canQuench_64 : decode cX6_canQuench 64 = .ok (.iinc 3 1, 3) := by decide +kernel
theorem dX6_canQuench_67 : decode cX6_canQuench 67 = .ok (.goto (-50), 3) := by decide +kernel
theorem dX6_canQuench_70 : decode cX6_canQuench 70 = .ok (.iload_n 2, 1) := by decide +kernel
theorem dX6_canQuench_71 : decode cX6_canQuench 71 = .ok (.ireturn, 1) := by decide +kernel
set_option maxRecDepth 20000 in
theorem ggX6_quenches_X6_steelIs : GoodIn wsX6_quenches wsX6_steelIs := goodIn_r _ [15, 16, 17, 24, 25, 26, 27, 28, 29, 30, 31, 32, 33, 34, 35, 36, 37, 38, 39, 40, 41, 42, 43, 44, 45, 46, 47, 48, 49, 50, 51, 52, 53, 54, 55] (by decide +kernel) (by decide +kernel)
set_option maxRecDepth 20000 in
theorem gX6_quenches_X6_steelIs : GoodIn wsX6_quenches (wsV RX6 129 RX6 yX6_steelIs wsX6_steelIs) := goodIn_app (goodIn_of _ (by decide +kernel)) ggX6_quenches_X6_steelIs
set_option maxRecDepth 20000 in
theorem ggX6_quenches_X6_neighbour : GoodIn wsX6_quenches wsX6_neighbour := goodIn_r _ [20] (by decide +kernel) (by decide +kernel)
set_option maxRecDepth 20000 in
theorem gX6_quenches_X6_neighbour : GoodIn wsX6_quenches (va_wsS RX6 141 yX6_neighbour wsX6_neighbour) := goodIn_app (goodIn_of _ (by decide +kernel)) ggX6_quenches_X6_neighbour
set_option maxRecDepth 20000 in
theorem ggX6_quenches_X6_least : GoodIn wsX6_quenches wsX6_least := goodIn_r _ [23] (by decide +kernel) (by decide +kernel)
set_option maxRecDepth 20000 in
theorem gX6_quenches_X6_least : GoodIn wsX6_quenches (va_wsS RX6 144 yX6_least wsX6_least) := goodIn_app (goodIn_of _ (by decide +kernel)) ggX6_quenches_X6_least
theorem dX6_quenches_0 : decode cX6_quenches 0 = .ok (.aload_n 0, 1) := by decide +kernel
theorem dX6_quenches_1 : decode cX6_quenches 1 = .ok (.iload_n 1, 1) := by decide +kernel
theorem dX6_quenches_2 : decode cX6_quenches 2 = .ok (.invokevirtual 129, 3) := by decide +kernel
theorem dX6_quenches_5 : decode cX6_quenches 5 = .ok (.istore_n 3, 1) := by decide +kernel
theorem dX6_quenches_6 : decode cX6_quenches 6 = .ok (.iconst 0, 1) := by decide +kernel
theorem dX6_quenches_7 : decode cX6_quenches 7 = .ok (.istore 4, 2) := by decide +kernel
theorem dX6_quenches_9 : decode cX6_quenches 9 = .ok (.iload 4, 2) := by decide +kernel
theorem dX6_quenches_11 : decode cX6_quenches 11 = .ok (.bipush 8, 2) := by decide +kernel
theorem dX6_quenches_13 : decode cX6_quenches 13 = .ok (.if_icmp .ge 145, 3) := by decide +kernel
theorem dX6_quenches_16 : decode cX6_quenches 16 = .ok (.aload_n 0, 1) := by decide +kernel
theorem dX6_quenches_17 : decode cX6_quenches 17 = .ok (.getfield 25, 3) := by decide +kernel
theorem dX6_quenches_20 : decode cX6_quenches 20 = .ok (.bipush 8, 2) := by decide +kernel
theorem dX6_quenches_22 : decode cX6_quenches 22 = .ok (.iload_n 1, 1) := by decide +kernel
theorem dX6_quenches_23 : decode cX6_quenches 23 = .ok (.imul, 1) := by decide +kernel
theorem dX6_quenches_24 : decode cX6_quenches 24 = .ok (.iload 4, 2) := by decide +kernel
theorem dX6_quenches_26 : decode cX6_quenches 26 = .ok (.iadd, 1) := by decide +kernel
theorem dX6_quenches_27 : decode cX6_quenches 27 = .ok (.iaload, 1) := by decide +kernel
theorem dX6_quenches_28 : decode cX6_quenches 28 = .ok (.istore 5, 2) := by decide +kernel
theorem dX6_quenches_30 : decode cX6_quenches 30 = .ok (.aload_n 0, 1) := by decide +kernel
theorem dX6_quenches_31 : decode cX6_quenches 31 = .ok (.getfield 25, 3) := by decide +kernel
theorem dX6_quenches_34 : decode cX6_quenches 34 = .ok (.bipush 8, 2) := by decide +kernel
theorem dX6_quenches_36 : decode cX6_quenches 36 = .ok (.iload_n 1, 1) := by decide +kernel
theorem dX6_quenches_37 : decode cX6_quenches 37 = .ok (.imul, 1) := by decide +kernel
theorem dX6_quenches_38 : decode cX6_quenches 38 = .ok (.iload 4, 2) := by decide +kernel
theorem dX6_quenches_40 : decode cX6_quenches 40 = .ok (.invokestatic 141, 3) := by decide +kernel
theorem dX6_quenches_43 : decode cX6_quenches 43 = .ok (.iadd, 1) := by decide +kernel
theorem dX6_quenches_44 : decode cX6_quenches 44 = .ok (.iaload, 1) := by decide +kernel
theorem dX6_quenches_45 : decode cX6_quenches 45 = .ok (.istore 6, 2) := by decide +kernel
theorem dX6_quenches_47 : decode cX6_quenches 47 = .ok (.iload 5, 2) := by decide +kernel
theorem dX6_quenches_49 : decode cX6_quenches 49 = .ok (.iload_n 2, 1) := by decide +kernel
theorem dX6_quenches_50 : decode cX6_quenches 50 = .ok (.ifCond .ne 8, 3) := by decide +kernel
theorem dX6_quenches_53 : decode cX6_quenches 53 = .ok (.bipush 10, 2) := by decide +kernel
theorem dX6_quenches_55 : decode cX6_quenches 55 = .ok (.goto 5, 3) := by decide +kernel
theorem dX6_quenches_58 : decode cX6_quenches 58 = .ok (.bipush 20, 2) := by decide +kernel
theorem dX6_quenches_60 : decode cX6_quenches 60 = .ok (.idiv, 1) := by decide +kernel
theorem dX6_quenches_61 : decode cX6_quenches 61 = .ok (.bipush 9, 2) := by decide +kernel
theorem dX6_quenches_63 : decode cX6_quenches 63 = .ok (.invokestatic 144, 3) := by decide +kernel
theorem dX6_quenches_66 : decode cX6_quenches 66 = .ok (.istore 7, 2) := by decide +kernel
theorem dX6_quenches_68 : decode cX6_quenches 68 = .ok (.aload_n 0, 1) := by decide +kernel
theorem dX6_quenches_69 : decode cX6_quenches 69 = .ok (.getfield 13, 3) := by decide +kernel
theorem dX6_quenches_72 : decode cX6_quenches 72 = .ok (.iload_n 3, 1) := by decide +kernel
theorem dX6_quenches_73 : decode cX6_quenches 73 = .ok (.iaload, 1) := by decide +kernel
theorem dX6_quenches_74 : decode cX6_quenches 74 = .ok (.aload_n 0, 1) := by decide +kernel
theorem dX6_quenches_75 : decode cX6_quenches 75 = .ok (.getfield 16, 3) := by decide +kernel
theorem dX6_quenches_78 : decode cX6_quenches 78 = .ok (.iload_n 3, 1) := by decide +kernel
theorem dX6_quenches_79 : decode cX6_quenches 79 = .ok (.iaload, 1) := by decide +kernel
theorem dX6_quenches_80 : decode cX6_quenches 80 = .ok (.iload 7, 2) := by decide +kernel
theorem dX6_quenches_82 : decode cX6_quenches 82 = .ok (.imul, 1) := by decide +kernel
theorem dX6_quenches_83 : decode cX6_quenches 83 = .ok (.isub, 1) := by decide +kernel
theorem dX6_quenches_84 : decode cX6_quenches 84 = .ok (.istore 8, 2) := by decide +kernel
theorem dX6_quenches_86 : decode cX6_quenches 86 = .ok (.aload_n 0, 1) := by decide +kernel
theorem dX6_quenches_87 : decode cX6_quenches 87 = .ok (.getfield 28, 3) := by decide +kernel
theorem dX6_quenches_90 : decode cX6_quenches 90 = .ok (.bipush 8, 2) := by decide +kernel
theorem dX6_quenches_92 : decode cX6_quenches 92 = .ok (.iload_n 1, 1) := by decide +kernel
theorem dX6_quenches_93 : decode cX6_quenches 93 = .ok (.imul, 1) := by decide +kernel
theorem dX6_quenches_94 : decode cX6_quenches 94 = .ok (.iload 4, 2) := by decide +kernel
theorem dX6_quenches_96 : decode cX6_quenches 96 = .ok (.iadd, 1) := by decide +kernel
theorem dX6_quenches_97 : decode cX6_quenches 97 = .ok (.iload 8, 2) := by decide +kernel
theorem dX6_quenches_99 : decode cX6_quenches 99 = .ok (.ifCond .ge 7, 3) := by decide +kernel
theorem dX6_quenches_102 : decode cX6_quenches 102 = .ok (.iconst 0, 1) := by decide +kernel
theorem dX6_quenches_103 : decode cX6_quenches 103 = .ok (.goto 5, 3) := by decide +kernel
theorem dX6_quenches_106 : decode cX6_quenches 106 = .ok (.iload 8, 2) := by decide +kernel
theorem dX6_quenches_108 : decode cX6_quenches 108 = .ok (.iastore, 1) := by decide +kernel
theorem dX6_quenches_109 : decode cX6_quenches 109 = .ok (.aload_n 0, 1) := by decide +kernel
theorem dX6_quenches_110 : decode cX6_quenches 110 = .ok (.getfield 46, 3) := by decide +kernel
theorem dX6_quenches_113 : decode cX6_quenches 113 = .ok (.iload_n 1, 1) := by decide +kernel
theorem dX6_quenches_114 : decode cX6_quenches 114 = .ok (.aload_n 0, 1) := by decide +kernel
theorem dX6_quenches_115 : decode cX6_quenches 115 = .ok (.getfield 46, 3) := by decide +kernel
theorem dX6_quenches_118 : decode cX6_quenches 118 = .ok (.iload_n 1, 1) := by decide +kernel
theorem dX6_quenches_119 : decode cX6_quenches 119 = .ok (.baload, 1) := by decide +kernel
theorem dX6_quenches_120 : decode cX6_quenches 120 = .ok (.ifCond .ne 26, 3) := by decide +kernel
theorem dX6_quenches_123 : decode cX6_quenches 123 = .ok (.iload_n 2, 1) := by decide +kernel
theorem dX6_quenches_124 : decode cX6_quenches 124 = .ok (.iconst 1, 1) := by decide +kernel
theorem dX6_quenches_125 : decode cX6_quenches 125 = .ok (.if_icmp .ne 25, 3) := by decide +kernel
theorem dX6_quenches_128 : decode cX6_quenches 128 = .ok (.iload 5, 2) := by decide +kernel
theorem dX6_quenches_130 : decode cX6_quenches 130 = .ok (.iconst 3, 1) := by decide +kernel
theorem dX6_quenches_131 : decode cX6_quenches 131 = .ok (.iload 6, 2) := by decide +kernel
theorem dX6_quenches_133 : decode cX6_quenches 133 = .ok (.imul, 1) := by decide +kernel
theorem dX6_quenches_134 : decode cX6_quenches 134 = .ok (.if_icmp .gt 12, 3) := by decide +kernel
theorem dX6_quenches_137 : decode cX6_quenches 137 = .ok (.iconst 3, 1) := by decide +kernel
theorem dX6_quenches_138 : decode cX6_quenches 138 = .ok (.iload 5, 2) := by decide +kernel
theorem dX6_quenches_140 : decode cX6_quenches 140 = .ok (.imul, 1) := by decide +kernel
theorem dX6_quenches_141 : decode cX6_quenches 141 = .ok (.iload 6, 2) := by decide +kernel
theorem dX6_quenches_143 : decode cX6_quenches 143 = .ok (.if_icmp .ge 7, 3) := by decide +kernel
theorem dX6_quenches_146 : decode cX6_quenches 146 = .ok (.iconst 1, 1) := by decide +kernel
theorem dX6_quenches_147 : decode cX6_quenches 147 = .ok (.goto 4, 3) := by decide +kernel
theorem dX6_quenches_150 : decode cX6_quenches 150 = .ok (.iconst 0, 1) := by decide +kernel
theorem dX6_quenches_151 : decode cX6_quenches 151 = .ok (.bastore, 1) := by decide +kernel
theorem dX6_quenches_152 : decode cX6_quenches 152 = .ok (.iinc 4 1, 3) := by decide +kernel
theorem dX6_quenches_155 : decode cX6_quenches 155 = .ok (.goto (-146), 3) := by decide +kernel
theorem dX6_quenches_158 : decode cX6_quenches 158 = .ok (.aload_n 0, 1) := by decide +kernel
theorem dX6_quenches_159 : decode cX6_quenches 159 = .ok (.getfield 56, 3) := by decide +kernel
theorem dX6_quenches_162 : decode cX6_quenches 162 = .ok (.iload_n 1, 1) := by decide +kernel
theorem dX6_quenches_163 : decode cX6_quenches 163 = .ok (.iconst 0, 1) := by decide +kernel
theorem dX6_quenches_164 : decode cX6_quenches 164 = .ok (.iastore, 1) := by decide +kernel
theorem dX6_quenches_165 : decode cX6_quenches 165 = .ok (.aload_n 0, 1) := by decide +kernel
theorem dX6_quenches_166 : decode cX6_quenches 166 = .ok (.getfield 53, 3) := by decide +kernel
theorem dX6_quenches_169 : decode cX6_quenches 169 = .ok (.iload_n 1, 1) := by decide +kernel
theorem dX6_quenches_170 : decode cX6_quenches 170 = .ok (.aload_n 0, 1) := by decide +kernel
theorem dX6_quenches_171 : decode cX6_quenches 171 = .ok (.getfield 161, 3) := by decide +kernel
theorem dX6_quenches_174 : decode cX6_quenches 174 = .ok (.iastore, 1) := by decide +kernel
theorem dX6_quenches_175 : decode cX6_quenches 175 = .ok (.aload_n 0, 1) := by decide +kernel
theorem dX6_quenches_176 : decode cX6_quenches 176 = .ok (.getfield 31, 3) := by decide +kernel
theorem dX6_quenches_179 : decode cX6_quenches 179 = .ok (.iload_n 1, 1) := by decide +kernel
theorem dX6_quenches_180 : decode cX6_quenches 180 = .ok (.bipush 20, 2) := by decide +kernel
theorem dX6_quenches_182 : decode cX6_quenches 182 = .ok (.iastore, 1) := by decide +kernel
theorem dX6_quenches_183 : decode cX6_quenches 183 = .ok (.aload_n 0, 1) := by decide +kernel
theorem dX6_quenches_184 : decode cX6_quenches 184 = .ok (.getfield 34, 3) := by decide +kernel
theorem dX6_quenches_187 : decode cX6_quenches 187 = .ok (.iload_n 1, 1) := by decide +kernel
theorem dX6_quenches_188 : decode cX6_quenches 188 = .ok (.bipush 20, 2) := by decide +kernel
theorem dX6_quenches_190 : decode cX6_quenches 190 = .ok (.iastore, 1) := by decide +kernel
theorem dX6_quenches_191 : decode cX6_quenches 191 = .ok (.return_, 1) := by decide +kernel
set_option maxRecDepth 20000 in
theorem ggX6_quench_X6_in : GoodIn wsX6_quench wsX6_in := goodIn_r _ [6] (by decide +kernel) (by decide +kernel)
set_option maxRecDepth 20000 in
theorem gX6_quench_X6_in : GoodIn wsX6_quench (va_wsS RX6 96 yX6_in wsX6_in) := goodIn_app (goodIn_of _ (by decide +kernel)) ggX6_quench_X6_in
set_option maxRecDepth 20000 in
theorem ggX6_quench_X6_canQuench : GoodIn wsX6_quench wsX6_canQuench := goodIn_r _ [10, 2, 1, 11, 12, 41, 42, 43, 44, 45, 46, 47, 48, 49, 50, 51, 52, 53, 54, 55, 56, 57, 58, 59, 60, 61, 62, 63, 64, 65, 66, 67, 68, 69, 70, 71, 72] (by decide +kernel) (by decide +kernel)
set_option maxRecDepth 20000 in
theorem gX6_quench_X6_canQuench : GoodIn wsX6_quench (wsV RX6 164 RX6 yX6_canQuench wsX6_canQuench) := goodIn_app (goodIn_of _ (by decide +kernel)) ggX6_quench_X6_canQuench
set_option maxRecDepth 20000 in
theorem ggX6_quench_X6_goes : GoodIn wsX6_quench wsX6_goes := goodIn_r _ [16, 17, 41, 42, 43, 44, 45, 46, 47, 48, 49, 50, 51, 52, 53, 54, 55, 56, 57, 58, 59, 60, 61, 62, 63, 64, 65, 66, 67, 68, 69, 70, 71, 72] (by decide +kernel) (by decide +kernel)
set_option maxRecDepth 20000 in
theorem gX6_quench_X6_goes : GoodIn wsX6_quench (wsV RX6 103 RX6 yX6_goes wsX6_goes) := goodIn_app (goodIn_of _ (by decide +kernel)) ggX6_quench_X6_goes
set_option maxRecDepth 20000 in
theorem ggX6_quench_X6_quenches : GoodIn wsX6_quench wsX6_quenches := goodIn_r _ [21, 22, 23, 24, 25, 12, 26, 27, 2, 28, 11, 29, 30, 31, 5, 32, 33, 34, 35, 36, 37, 38, 39, 40, 41, 42, 43, 44, 45, 46, 47, 48, 49, 50, 51, 52, 53, 54, 55, 56, 57, 58, 59, 60, 61, 62, 63, 64, 65, 66, 67, 68, 69, 70, 71, 72] (by decide +kernel) (by decide +kernel)
set_option maxRecDepth 20000 in
theorem gX6_quench_X6_quenches : GoodIn wsX6_quench (wsV RX6 167 RX6 yX6_quenches wsX6_quenches) := goodIn_app (goodIn_of _ (by decide +kernel)) ggX6_quench_X6_quenches
theorem dX6_quench_0 : decode cX6_quench 0 = .ok (.iload_n 1, 1) := by decide +kernel
theorem dX6_quench_1 : decode cX6_quench 1 = .ok (.ifCond .le 26, 3) := by decide +kernel
theorem dX6_quench_4 : decode cX6_quench 4 = .ok (.iload_n 1, 1) := by decide +kernel
theorem dX6_quench_5 : decode cX6_quench 5 = .ok (.iconst 1, 1) := by decide +kernel
theorem dX6_quench_6 : decode cX6_quench 6 = .ok (.aload_n 0, 1) := by decide +kernel
theorem dX6_quench_7 : decode cX6_quench 7 = .ok (.getfield 93, 3) := by decide +kernel
theorem dX6_quench_10 : decode cX6_quench 10 = .ok (.ishl, 1) := by decide +kernel
theorem dX6_quench_11 : decode cX6_quench 11 = .ok (.if_icmp .ge 16, 3) := by decide +kernel
theorem dX6_quench_14 : decode cX6_quench 14 = .ok (.iload_n 2, 1) := by decide +kernel
theorem dX6_quench_15 : decode cX6_quench 15 = .ok (.iconst 0, 1) := by decide +kernel
theorem dX6_quench_16 : decode cX6_quench 16 = .ok (.iconst 1, 1) := by decide +kernel
theorem dX6_quench_17 : decode cX6_quench 17 = .ok (.invokestatic 96, 3) := by decide +kernel
theorem dX6_quench_20 : decode cX6_quench 20 = .ok (.ifCond .eq 7, 3) := by decide +kernel
theorem dX6_quench_23 : decode cX6_quench 23 = .ok (.iconst 1, 1) := by decide +kernel
theorem dX6_quench_24 : decode cX6_quench 24 = .ok (.goto 4, 3) := by decide +kernel
theorem dX6_quench_27 : decode cX6_quench 27 = .ok (.iconst 0, 1) := by decide +kernel
theorem dX6_quench_28 : decode cX6_quench 28 = .ok (.istore_n 3, 1) := by decide +kernel
theorem dX6_quench_29 : decode cX6_quench 29 = .ok (.aload_n 0, 1) := by decide +kernel
theorem dX6_quench_30 : decode cX6_quench 30 = .ok (.iload_n 3, 1) := by decide +kernel
theorem dX6_quench_31 : decode cX6_quench 31 = .ok (.iload_n 3, 1) := by decide +kernel
theorem dX6_quench_32 : decode cX6_quench 32 = .ok (.ifCond .eq 15, 3) := by decide +kernel
theorem dX6_quench_35 : decode cX6_quench 35 = .ok (.aload_n 0, 1) := by decide +kernel
theorem dX6_quench_36 : decode cX6_quench 36 = .ok (.iload_n 1, 1) := by decide +kernel
theorem dX6_quench_37 : decode cX6_quench 37 = .ok (.invokevirtual 164, 3) := by decide +kernel
theorem dX6_quench_40 : decode cX6_quench 40 = .ok (.ifCond .eq 7, 3) := by decide +kernel
theorem dX6_quench_43 : decode cX6_quench 43 = .ok (.iconst 1, 1) := by decide +kernel
theorem dX6_quench_44 : decode cX6_quench 44 = .ok (.goto 4, 3) := by decide +kernel
theorem dX6_quench_47 : decode cX6_quench 47 = .ok (.iconst 0, 1) := by decide +kernel
theorem dX6_quench_48 : decode cX6_quench 48 = .ok (.iconst 1, 1) := by decide +kernel
theorem dX6_quench_49 : decode cX6_quench 49 = .ok (.invokevirtual 103, 3) := by decide +kernel
theorem dX6_quench_52 : decode cX6_quench 52 = .ok (.ifCond .ne 5, 3) := by decide +kernel
theorem dX6_quench_55 : decode cX6_quench 55 = .ok (.iconst 0, 1) := by decide +kernel
theorem dX6_quench_56 : decode cX6_quench 56 = .ok (.ireturn, 1) := by decide +kernel
theorem dX6_quench_57 : decode cX6_quench 57 = .ok (.iconst 0, 1) := by decide +kernel
theorem dX6_quench_58 : decode cX6_quench 58 = .ok (.istore 4, 2) := by decide +kernel
theorem dX6_quench_60 : decode cX6_quench 60 = .ok (.iload 4, 2) := by decide +kernel
theorem dX6_quench_62 : decode cX6_quench 62 = .ok (.aload_n 0, 1) := by decide +kernel
theorem dX6_quench_63 : decode cX6_quench 63 = .ok (.getfield 93, 3) := by decide +kernel
theorem dX6_quench_66 : decode cX6_quench 66 = .ok (.if_icmp .ge 26, 3) := by decide +kernel
theorem dX6_quench_69 : decode cX6_quench 69 = .ok (.iload_n 1, 1) := by decide +kernel
theorem dX6_quench_70 : decode cX6_quench 70 = .ok (.iload 4, 2) := by decide +kernel
theorem dX6_quench_72 : decode cX6_quench 72 = .ok (.ishr, 1) := by decide +kernel
theorem dX6_quench_73 : decode cX6_quench 73 = .ok (.iconst 1, 1) := by decide +kernel
theorem dX6_quench_74 : decode cX6_quench 74 = .ok (.iand, 1) := by decide +kernel
theorem dX6_quench_75 : decode cX6_quench 75 = .ok (.iconst 1, 1) := by decide +kernel
theorem dX6_quench_76 : decode cX6_quench 76 = .ok (.if_icmp .ne 10, 3) := by decide +kernel
theorem dX6_quench_79 : decode cX6_quench 79 = .ok (.aload_n 0, 1) := by decide +kernel
theorem dX6_quench_80 : decode cX6_quench 80 = .ok (.iload 4, 2) := by decide +kernel
theorem dX6_quench_82 : decode cX6_quench 82 = .ok (.iload_n 2, 1) := by decide +kernel
theorem dX6_quench_83 : decode cX6_quench 83 = .ok (.invokevirtual 167, 3) := by decide +kernel
theorem dX6_quench_86 : decode cX6_quench 86 = .ok (.iinc 4 1, 3) := by decide +kernel
theorem dX6_quench_89 : decode cX6_quench 89 = .ok (.goto (-29), 3) := by decide +kernel
theorem dX6_quench_92 : decode cX6_quench 92 = .ok (.aload_n 0, 1) := by decide +kernel
theorem dX6_quench_93 : decode cX6_quench 93 = .ok (.dup, 1) := by decide +kernel
theorem dX6_quench_94 : decode cX6_quench 94 = .ok (.getfield 161, 3) := by decide +kernel
theorem dX6_quench_97 : decode cX6_quench 97 = .ok (.iconst 1, 1) := by decide +kernel
theorem dX6_quench_98 : decode cX6_quench 98 = .ok (.iadd, 1) := by decide +kernel
theorem dX6_quench_99 : decode cX6_quench 99 = .ok (.putfield 161, 3) := by decide +kernel
theorem dX6_quench_102 : decode cX6_quench 102 = .ok (.aload_n 0, 1) := by decide +kernel
theorem dX6_quench_103 : decode cX6_quench 103 = .ok (.getfield 161, 3) := by decide +kernel
theorem dX6_quench_106 : decode cX6_quench 106 = .ok (.iconst 1, 1) := by decide +kernel
theorem dX6_quench_107 : decode cX6_quench 107 = .ok (.isub, 1) := by decide +kernel
theorem dX6_quench_108 : decode cX6_quench 108 = .ok (.ireturn, 1) := by decide +kernel
theorem dX6_hardnessOf_0 : decode cX6_hardnessOf 0 = .ok (.aload_n 0, 1) := by decide +kernel
theorem dX6_hardnessOf_1 : decode cX6_hardnessOf 1 = .ok (.getfield 28, 3) := by decide +kernel
theorem dX6_hardnessOf_4 : decode cX6_hardnessOf 4 = .ok (.bipush 8, 2) := by decide +kernel
theorem dX6_hardnessOf_6 : decode cX6_hardnessOf 6 = .ok (.iload_n 1, 1) := by decide +kernel
theorem dX6_hardnessOf_7 : decode cX6_hardnessOf 7 = .ok (.imul, 1) := by decide +kernel
theorem dX6_hardnessOf_8 : decode cX6_hardnessOf 8 = .ok (.iload_n 2, 1) := by decide +kernel
theorem dX6_hardnessOf_9 : decode cX6_hardnessOf 9 = .ok (.iadd, 1) := by decide +kernel
theorem dX6_hardnessOf_10 : decode cX6_hardnessOf 10 = .ok (.iaload, 1) := by decide +kernel
theorem dX6_hardnessOf_11 : decode cX6_hardnessOf 11 = .ok (.aload_n 0, 1) := by decide +kernel
theorem dX6_hardnessOf_12 : decode cX6_hardnessOf 12 = .ok (.getfield 56, 3) := by decide +kernel
theorem dX6_hardnessOf_15 : decode cX6_hardnessOf 15 = .ok (.iload_n 1, 1) := by decide +kernel
theorem dX6_hardnessOf_16 : decode cX6_hardnessOf 16 = .ok (.iaload, 1) := by decide +kernel
theorem dX6_hardnessOf_17 : decode cX6_hardnessOf 17 = .ok (.bipush 100, 2) := by decide +kernel
theorem dX6_hardnessOf_19 : decode cX6_hardnessOf 19 = .ok (.if_icmp .le 18, 3) := by decide +kernel
theorem dX6_hardnessOf_22 : decode cX6_hardnessOf 22 = .ok (.aload_n 0, 1) := by decide +kernel
theorem dX6_hardnessOf_23 : decode cX6_hardnessOf 23 = .ok (.getfield 56, 3) := by decide +kernel
theorem dX6_hardnessOf_26 : decode cX6_hardnessOf 26 = .ok (.iload_n 1, 1) := by decide +kernel
theorem dX6_hardnessOf_27 : decode cX6_hardnessOf 27 = .ok (.iaload, 1) := by decide +kernel
theorem dX6_hardnessOf_28 : decode cX6_hardnessOf 28 = .ok (.bipush 100, 2) := by decide +kernel
theorem dX6_hardnessOf_30 : decode cX6_hardnessOf 30 = .ok (.isub, 1) := by decide +kernel
theorem dX6_hardnessOf_31 : decode cX6_hardnessOf 31 = .ok (.bipush 20, 2) := by decide +kernel
theorem dX6_hardnessOf_33 : decode cX6_hardnessOf 33 = .ok (.idiv, 1) := by decide +kernel
theorem dX6_hardnessOf_34 : decode cX6_hardnessOf 34 = .ok (.goto 4, 3) := by decide +kernel
theorem dX6_hardnessOf_37 : decode cX6_hardnessOf 37 = .ok (.iconst 0, 1) := by decide +kernel
theorem dX6_hardnessOf_38 : decode cX6_hardnessOf 38 = .ok (.isub, 1) := by decide +kernel
theorem dX6_hardnessOf_39 : decode cX6_hardnessOf 39 = .ok (.istore_n 3, 1) := by decide +kernel
theorem dX6_hardnessOf_40 : decode cX6_hardnessOf 40 = .ok (.iload_n 3, 1) := by decide +kernel
theorem dX6_hardnessOf_41 : decode cX6_hardnessOf 41 = .ok (.ifCond .ge 7, 3) := by decide +kernel
theorem dX6_hardnessOf_44 : decode cX6_hardnessOf 44 = .ok (.iconst 0, 1) := by decide +kernel
theorem dX6_hardnessOf_45 : decode cX6_hardnessOf 45 = .ok (.goto 4, 3) := by decide +kernel
theorem dX6_hardnessOf_48 : decode cX6_hardnessOf 48 = .ok (.iload_n 3, 1) := by decide +kernel
theorem dX6_hardnessOf_49 : decode cX6_hardnessOf 49 = .ok (.ireturn, 1) := by decide +kernel
set_option maxRecDepth 20000 in
theorem ggX6_softest_X6_hardnessOf : GoodIn wsX6_softest wsX6_hardnessOf := goodIn_r _ [5, 6, 7, 11, 12, 13, 14, 15, 16, 17, 18, 19, 20, 21, 22, 23, 24, 25, 26, 27, 28, 29, 30, 31, 32, 33, 34, 35, 36, 37, 38, 39, 40, 41, 42] (by decide +kernel) (by decide +kernel)
set_option maxRecDepth 20000 in
theorem gX6_softest_X6_hardnessOf : GoodIn wsX6_softest (wsV RX6 171 RX6 yX6_hardnessOf wsX6_hardnessOf) := goodIn_app (goodIn_of _ (by decide +kernel)) ggX6_softest_X6_hardnessOf
set_option maxRecDepth 20000 in
theorem ggX6_softest_X6_least : GoodIn wsX6_softest wsX6_least := goodIn_r _ [10] (by decide +kernel) (by decide +kernel)
set_option maxRecDepth 20000 in
theorem gX6_softest_X6_least : GoodIn wsX6_softest (va_wsS RX6 144 yX6_least wsX6_least) := goodIn_app (goodIn_of _ (by decide +kernel)) ggX6_softest_X6_least
theorem dX6_softest_0 : decode cX6_softest 0 = .ok (.aload_n 0, 1) := by decide +kernel
theorem dX6_softest_1 : decode cX6_softest 1 = .ok (.iload_n 1, 1) := by decide +kernel
theorem dX6_softest_2 : decode cX6_softest 2 = .ok (.iconst 0, 1) := by decide +kernel
theorem dX6_softest_3 : decode cX6_softest 3 = .ok (.invokevirtual 171, 3) := by decide +kernel
theorem dX6_softest_6 : decode cX6_softest 6 = .ok (.istore_n 2, 1) := by decide +kernel
theorem dX6_softest_7 : decode cX6_softest 7 = .ok (.iconst 1, 1) := by decide +kernel
theorem dX6_softest_8 : decode cX6_softest 8 = .ok (.istore_n 3, 1) := by decide +kernel
theorem dX6_softest_9 : decode cX6_softest 9 = .ok (.iload_n 3, 1) := by decide +kernel
theorem dX6_softest_10 : decode cX6_softest 10 = .ok (.bipush 8, 2) := by decide +kernel
theorem dX6_softest_12 : decode cX6_softest 12 = .ok (.if_icmp .ge 20, 3) := by decide +kernel
theorem dX6_softest_15 : decode cX6_softest 15 = .ok (.iload_n 2, 1) := by decide +kernel
theorem dX6_softest_16 : decode cX6_softest 16 = .ok (.aload_n 0, 1) := by decide +kernel
theorem dX6_softest_17 : decode cX6_softest 17 = .ok (.iload_n 1, 1) := by decide +kernel
theorem dX6_softest_18 : decode cX6_softest 18 = .ok (.iload_n 3, 1) := by decide +kernel
theorem dX6_softest_19 : decode cX6_softest 19 = .ok (.invokevirtual 171, 3) := by decide +kernel
theorem dX6_softest_22 : decode cX6_softest 22 = .ok (.invokestatic 144, 3) := by decide +kernel
theorem dX6_softest_25 : decode cX6_softest 25 = .ok (.istore_n 2, 1) := by decide +kernel
theorem dX6_softest_26 : decode cX6_softest 26 = .ok (.iinc 3 1, 3) := by decide +kernel
theorem dX6_softest_29 : decode cX6_softest 29 = .ok (.goto (-20), 3) := by decide +kernel
theorem dX6_softest_32 : decode cX6_softest 32 = .ok (.iload_n 2, 1) := by decide +kernel
theorem dX6_softest_33 : decode cX6_softest 33 = .ok (.ireturn, 1) := by decide +kernel
set_option maxRecDepth 20000 in
theorem ggX6_temper_X6_isBillet : GoodIn wsX6_temper wsX6_isBillet := goodIn_r _ [7, 8, 9, 10, 6, 11, 29, 30, 31, 32, 33, 34, 35, 36, 37, 38, 39, 40, 41, 42, 43, 44, 45, 46, 47, 48, 49, 50, 51, 52, 53, 54, 55, 56, 57, 58, 59, 60] (by decide +kernel) (by decide +kernel)
set_option maxRecDepth 20000 in
theorem gX6_temper_X6_isBillet : GoodIn wsX6_temper (wsV RX6 114 RX6 yX6_isBillet wsX6_isBillet) := goodIn_app (goodIn_of _ (by decide +kernel)) ggX6_temper_X6_isBillet
set_option maxRecDepth 20000 in
theorem ggX6_temper_X6_in : GoodIn wsX6_temper wsX6_in := goodIn_r _ [11] (by decide +kernel) (by decide +kernel)
set_option maxRecDepth 20000 in
theorem gX6_temper_X6_in : GoodIn wsX6_temper (va_wsS RX6 96 yX6_in wsX6_in) := goodIn_app (goodIn_of _ (by decide +kernel)) ggX6_temper_X6_in
set_option maxRecDepth 20000 in
theorem ggX6_temper_X6_goes : GoodIn wsX6_temper wsX6_goes := goodIn_r _ [15, 16, 29, 30, 31, 32, 33, 34, 35, 36, 37, 38, 39, 40, 41, 42, 43, 44, 45, 46, 47, 48, 49, 50, 51, 52, 53, 54, 55, 56, 57, 58, 59, 60] (by decide +kernel) (by decide +kernel)
set_option maxRecDepth 20000 in
theorem gX6_temper_X6_goes : GoodIn wsX6_temper (wsV RX6 103 RX6 yX6_goes wsX6_goes) := goodIn_app (goodIn_of _ (by decide +kernel)) ggX6_temper_X6_goes
set_option maxRecDepth 20000 in
theorem ggX6_temper_X6_softest : GoodIn wsX6_temper wsX6_softest := goodIn_r _ [20, 21, 22, 23, 6, 24, 25, 2, 26, 27, 28, 29, 30, 31, 32, 33, 34, 35, 36, 37, 38, 39, 40, 41, 42, 43, 44, 45, 46, 47, 48, 49, 50, 51, 52, 53, 54, 55, 56, 57, 58, 59, 60] (by decide +kernel) (by decide +kernel)
set_option maxRecDepth 20000 in
theorem gX6_temper_X6_softest : GoodIn wsX6_temper (wsV RX6 174 RX6 yX6_softest wsX6_softest) := goodIn_app (goodIn_of _ (by decide +kernel)) ggX6_temper_X6_softest
theorem dX6_temper_0 : decode cX6_temper 0 = .ok (.aload_n 0, 1) := by decide +kernel
theorem dX6_temper_1 : decode cX6_temper 1 = .ok (.iload_n 1, 1) := by decide +kernel
theorem dX6_temper_2 : decode cX6_temper 2 = .ok (.invokevirtual 114, 3) := by decide +kernel
theorem dX6_temper_5 : decode cX6_temper 5 = .ok (.istore_n 3, 1) := by decide +kernel
theorem dX6_temper_6 : decode cX6_temper 6 = .ok (.aload_n 0, 1) := by decide +kernel
theorem dX6_temper_7 : decode cX6_temper 7 = .ok (.iload_n 3, 1) := by decide +kernel
theorem dX6_temper_8 : decode cX6_temper 8 = .ok (.iload_n 2, 1) := by decide +kernel
theorem dX6_temper_9 : decode cX6_temper 9 = .ok (.bipush 100, 2) := by decide +kernel
theorem dX6_temper_11 : decode cX6_temper 11 = .ok (.sipush 700, 3) := by decide +kernel
theorem dX6_temper_14 : decode cX6_temper 14 = .ok (.invokestatic 96, 3) := by decide +kernel
theorem dX6_temper_17 : decode cX6_temper 17 = .ok (.iload_n 3, 1) := by decide +kernel
theorem dX6_temper_18 : decode cX6_temper 18 = .ok (.ifCond .eq 25, 3) := by decide +kernel
theorem dX6_temper_21 : decode cX6_temper 21 = .ok (.aload_n 0, 1) := by decide +kernel
theorem dX6_temper_22 : decode cX6_temper 22 = .ok (.getfield 53, 3) := by decide +kernel
theorem dX6_temper_25 : decode cX6_temper 25 = .ok (.iload_n 3, 1) := by decide +kernel
theorem dX6_temper_26 : decode cX6_temper 26 = .ok (.ifCond .eq 7, 3) := by decide +kernel
theorem dX6_temper_29 : decode cX6_temper 29 = .ok (.iload_n 1, 1) := by decide +kernel
theorem dX6_temper_30 : decode cX6_temper 30 = .ok (.goto 4, 3) := by decide +kernel
theorem dX6_temper_33 : decode cX6_temper 33 = .ok (.iconst 0, 1) := by decide +kernel
theorem dX6_temper_34 : decode cX6_temper 34 = .ok (.iaload, 1) := by decide +kernel
theorem dX6_temper_35 : decode cX6_temper 35 = .ok (.iconst (-1), 1) := by decide +kernel
theorem dX6_temper_36 : decode cX6_temper 36 = .ok (.if_icmp .eq 7, 3) := by decide +kernel
theorem dX6_temper_39 : decode cX6_temper 39 = .ok (.iconst 1, 1) := by decide +kernel
theorem dX6_temper_40 : decode cX6_temper 40 = .ok (.goto 4, 3) := by decide +kernel
theorem dX6_temper_43 : decode cX6_temper 43 = .ok (.iconst 0, 1) := by decide +kernel
theorem dX6_temper_44 : decode cX6_temper 44 = .ok (.invokevirtual 103, 3) := by decide +kernel
theorem dX6_temper_47 : decode cX6_temper 47 = .ok (.ifCond .ne 5, 3) := by decide +kernel
theorem dX6_temper_50 : decode cX6_temper 50 = .ok (.iconst 0, 1) := by decide +kernel
theorem dX6_temper_51 : decode cX6_temper 51 = .ok (.ireturn, 1) := by decide +kernel
theorem dX6_temper_52 : decode cX6_temper 52 = .ok (.aload_n 0, 1) := by decide +kernel
theorem dX6_temper_53 : decode cX6_temper 53 = .ok (.getfield 56, 3) := by decide +kernel
theorem dX6_temper_56 : decode cX6_temper 56 = .ok (.iload_n 1, 1) := by decide +kernel
theorem dX6_temper_57 : decode cX6_temper 57 = .ok (.iload_n 2, 1) := by decide +kernel
theorem dX6_temper_58 : decode cX6_temper 58 = .ok (.aload_n 0, 1) := by decide +kernel
theorem dX6_temper_59 : decode cX6_temper 59 = .ok (.getfield 56, 3) := by decide +kernel
theorem dX6_temper_62 : decode cX6_temper 62 = .ok (.iload_n 1, 1) := by decide +kernel
theorem dX6_temper_63 : decode cX6_temper 63 = .ok (.iaload, 1) := by decide +kernel
theorem dX6_temper_64 : decode cX6_temper 64 = .ok (.if_icmp .le 7, 3) := by decide +kernel
theorem dX6_temper_67 : decode cX6_temper 67 = .ok (.iload_n 2, 1) := by decide +kernel
theorem dX6_temper_68 : decode cX6_temper 68 = .ok (.goto 9, 3) := by decide +kernel
theorem dX6_temper_71 : decode cX6_temper 71 = .ok (.aload_n 0, 1) := by decide +kernel
theorem dX6_temper_72 : decode cX6_temper 72 = .ok (.getfield 56, 3) := by decide +kernel
theorem dX6_temper_75 : decode cX6_temper 75 = .ok (.iload_n 1, 1) := by decide +kernel
theorem dX6_temper_76 : decode cX6_temper 76 = .ok (.iaload, 1) := by decide +kernel
theorem dX6_temper_77 : decode cX6_temper 77 = .ok (.iastore, 1) := by decide +kernel
theorem dX6_temper_78 : decode cX6_temper 78 = .ok (.aload_n 0, 1) := by decide +kernel
theorem dX6_temper_79 : decode cX6_temper 79 = .ok (.iload_n 1, 1) := by decide +kernel
theorem dX6_temper_80 : decode cX6_temper 80 = .ok (.invokevirtual 174, 3) := by decide +kernel
theorem dX6_temper_83 : decode cX6_temper 83 = .ok (.ireturn, 1) := by decide +kernel
set_option maxRecDepth 20000 in
theorem ggX6_hardness_X6_isBillet : GoodIn wsX6_hardness wsX6_isBillet := goodIn_r _ [5, 6, 7, 8, 4, 9, 24, 25, 26, 27, 28, 29, 30, 31, 32, 33, 34, 35, 36, 37, 38, 39, 40, 41, 42, 43, 44, 45, 46, 47, 48, 49, 50, 51, 52, 53, 54, 55] (by decide +kernel) (by decide +kernel)
set_option maxRecDepth 20000 in
theorem gX6_hardness_X6_isBillet : GoodIn wsX6_hardness (wsV RX6 114 RX6 yX6_isBillet wsX6_isBillet) := goodIn_app (goodIn_of _ (by decide +kernel)) ggX6_hardness_X6_isBillet
set_option maxRecDepth 20000 in
theorem ggX6_hardness_X6_isSection : GoodIn wsX6_hardness wsX6_isSection := goodIn_r _ [12, 7, 8, 4, 9] (by decide +kernel) (by decide +kernel)
set_option maxRecDepth 20000 in
theorem gX6_hardness_X6_isSection : GoodIn wsX6_hardness (va_wsS RX6 122 yX6_isSection wsX6_isSection) := goodIn_app (goodIn_of _ (by decide +kernel)) ggX6_hardness_X6_isSection
set_option maxRecDepth 20000 in
theorem ggX6_hardness_X6_goes : GoodIn wsX6_hardness wsX6_goes := goodIn_r _ [16, 17, 24, 25, 26, 27, 28, 29, 30, 31, 32, 33, 34, 35, 36, 37, 38, 39, 40, 41, 42, 43, 44, 45, 46, 47, 48, 49, 50, 51, 52, 53, 54, 55] (by decide +kernel) (by decide +kernel)
set_option maxRecDepth 20000 in
theorem gX6_hardness_X6_goes : GoodIn wsX6_hardness (wsV RX6 103 RX6 yX6_goes wsX6_goes) := goodIn_app (goodIn_of _ (by decide +kernel)) ggX6_hardness_X6_goes
set_option maxRecDepth 20000 in
theorem ggX6_hardness_X6_hardnessOf : GoodIn wsX6_hardness wsX6_hardnessOf := goodIn_r _ [21, 22, 23, 24, 25, 26, 27, 28, 29, 30, 31, 32, 33, 34, 35, 36, 37, 38, 39, 40, 41, 42, 43, 44, 45, 46, 47, 48, 49, 50, 51, 52, 53, 54, 55] (by decide +kernel) (by decide +kernel)
set_option maxRecDepth 20000 in
theorem gX6_hardness_X6_hardnessOf : GoodIn wsX6_hardness (wsV RX6 171 RX6 yX6_hardnessOf wsX6_hardnessOf) := goodIn_app (goodIn_of _ (by decide +kernel)) ggX6_hardness_X6_hardnessOf
theorem dX6_hardness_0 : decode cX6_hardness 0 = .ok (.aload_n 0, 1) := by decide +kernel
theorem dX6_hardness_1 : decode cX6_hardness 1 = .ok (.aload_n 0, 1) := by decide +kernel
theorem dX6_hardness_2 : decode cX6_hardness 2 = .ok (.iload_n 1, 1) := by decide +kernel
theorem dX6_hardness_3 : decode cX6_hardness 3 = .ok (.invokevirtual 114, 3) := by decide +kernel
theorem dX6_hardness_6 : decode cX6_hardness 6 = .ok (.ifCond .eq 14, 3) := by decide +kernel
theorem dX6_hardness_9 : decode cX6_hardness 9 = .ok (.iload_n 2, 1) := by decide +kernel
theorem dX6_hardness_10 : decode cX6_hardness 10 = .ok (.invokestatic 122, 3) := by decide +kernel
theorem dX6_hardness_13 : decode cX6_hardness 13 = .ok (.ifCond .eq 7, 3) := by decide +kernel
theorem dX6_hardness_16 : decode cX6_hardness 16 = .ok (.iconst 1, 1) := by decide +kernel
theorem dX6_hardness_17 : decode cX6_hardness 17 = .ok (.goto 4, 3) := by decide +kernel
theorem dX6_hardness_20 : decode cX6_hardness 20 = .ok (.iconst 0, 1) := by decide +kernel
theorem dX6_hardness_21 : decode cX6_hardness 21 = .ok (.iconst 1, 1) := by decide +kernel
theorem dX6_hardness_22 : decode cX6_hardness 22 = .ok (.iconst 1, 1) := by decide +kernel
theorem dX6_hardness_23 : decode cX6_hardness 23 = .ok (.invokevirtual 103, 3) := by decide +kernel
theorem dX6_hardness_26 : decode cX6_hardness 26 = .ok (.ifCond .eq 12, 3) := by decide +kernel
theorem dX6_hardness_29 : decode cX6_hardness 29 = .ok (.aload_n 0, 1) := by decide +kernel
theorem dX6_hardness_30 : decode cX6_hardness 30 = .ok (.iload_n 1, 1) := by decide +kernel
theorem dX6_hardness_31 : decode cX6_hardness 31 = .ok (.iload_n 2, 1) := by decide +kernel
theorem dX6_hardness_32 : decode cX6_hardness 32 = .ok (.invokevirtual 171, 3) := by decide +kernel
theorem dX6_hardness_35 : decode cX6_hardness 35 = .ok (.goto 4, 3) := by decide +kernel
theorem dX6_hardness_38 : decode cX6_hardness 38 = .ok (.iconst 0, 1) := by decide +kernel
theorem dX6_hardness_39 : decode cX6_hardness 39 = .ok (.ireturn, 1) := by decide +kernel
set_option maxRecDepth 20000 in
theorem ggX6_test_X6_isBillet : GoodIn wsX6_test wsX6_isBillet := goodIn_r _ [9, 10, 11, 12, 8, 13, 32, 33, 34, 35, 36, 37, 38, 39, 40, 41, 42, 43, 44, 45, 46, 47, 48, 49, 50, 51, 52, 53, 54, 55, 56, 57, 58, 59, 60, 61, 62, 63] (by decide +kernel) (by decide +kernel)
set_option maxRecDepth 20000 in
theorem gX6_test_X6_isBillet : GoodIn wsX6_test (wsV RX6 114 RX6 yX6_isBillet wsX6_isBillet) := goodIn_app (goodIn_of _ (by decide +kernel)) ggX6_test_X6_isBillet
set_option maxRecDepth 20000 in
theorem ggX6_test_X6_goes : GoodIn wsX6_test wsX6_goes := goodIn_r _ [17, 18, 32, 33, 34, 35, 36, 37, 38, 39, 40, 41, 42, 43, 44, 45, 46, 47, 48, 49, 50, 51, 52, 53, 54, 55, 56, 57, 58, 59, 60, 61, 62, 63] (by decide +kernel) (by decide +kernel)
set_option maxRecDepth 20000 in
theorem gX6_test_X6_goes : GoodIn wsX6_test (wsV RX6 103 RX6 yX6_goes wsX6_goes) := goodIn_app (goodIn_of _ (by decide +kernel)) ggX6_test_X6_goes
set_option maxRecDepth 20000 in
theorem ggX6_test_X6_softest : GoodIn wsX6_test wsX6_softest := goodIn_r _ [22, 23, 24, 25, 8, 26, 27, 28, 29, 30, 31, 32, 33, 34, 35, 36, 37, 38, 39, 40, 41, 42, 43, 44, 45, 46, 47, 48, 49, 50, 51, 52, 53, 54, 55, 56, 57, 58, 59, 60, 61, 62, 63] (by decide +kernel) (by decide +kernel)
set_option maxRecDepth 20000 in
theorem gX6_test_X6_softest : GoodIn wsX6_test (wsV RX6 174 RX6 yX6_softest wsX6_softest) := goodIn_app (goodIn_of _ (by decide +kernel)) ggX6_test_X6_softest
theorem dX6_test_0 : decode cX6_test 0 = .ok (.aload_n 0, 1) := by decide +kernel
theorem dX6_test_1 : decode cX6_test 1 = .ok (.iload_n 1, 1) := by decide +kernel
theorem dX6_test_2 : decode cX6_test 2 = .ok (.invokevirtual 114, 3) := by decide +kernel
theorem dX6_test_5 : decode cX6_test 5 = .ok (.istore_n 2, 1) := by decide +kernel
theorem dX6_test_6 : decode cX6_test 6 = .ok (.aload_n 0, 1) := by decide +kernel
theorem dX6_test_7 : decode cX6_test 7 = .ok (.iload_n 2, 1) := by decide +kernel
theorem dX6_test_8 : decode cX6_test 8 = .ok (.iload_n 2, 1) := by decide +kernel
theorem dX6_test_9 : decode cX6_test 9 = .ok (.ifCond .eq 25, 3) := by decide +kernel
theorem dX6_test_12 : decode cX6_test 12 = .ok (.aload_n 0, 1) := by decide +kernel
theorem dX6_test_13 : decode cX6_test 13 = .ok (.getfield 53, 3) := by decide +kernel
theorem dX6_test_16 : decode cX6_test 16 = .ok (.iload_n 2, 1) := by decide +kernel
theorem dX6_test_17 : decode cX6_test 17 = .ok (.ifCond .eq 7, 3) := by decide +kernel
theorem dX6_test_20 : decode cX6_test 20 = .ok (.iload_n 1, 1) := by decide +kernel
theorem dX6_test_21 : decode cX6_test 21 = .ok (.goto 4, 3) := by decide +kernel
theorem dX6_test_24 : decode cX6_test 24 = .ok (.iconst 0, 1) := by decide +kernel
theorem dX6_test_25 : decode cX6_test 25 = .ok (.iaload, 1) := by decide +kernel
theorem dX6_test_26 : decode cX6_test 26 = .ok (.iconst (-1), 1) := by decide +kernel
theorem dX6_test_27 : decode cX6_test 27 = .ok (.if_icmp .eq 7, 3) := by decide +kernel
theorem dX6_test_30 : decode cX6_test 30 = .ok (.iconst 1, 1) := by decide +kernel
theorem dX6_test_31 : decode cX6_test 31 = .ok (.goto 4, 3) := by decide +kernel
theorem dX6_test_34 : decode cX6_test 34 = .ok (.iconst 0, 1) := by decide +kernel
theorem dX6_test_35 : decode cX6_test 35 = .ok (.iconst 1, 1) := by decide +kernel
theorem dX6_test_36 : decode cX6_test 36 = .ok (.invokevirtual 103, 3) := by decide +kernel
theorem dX6_test_39 : decode cX6_test 39 = .ok (.ifCond .ne 5, 3) := by decide +kernel
theorem dX6_test_42 : decode cX6_test 42 = .ok (.iconst 0, 1) := by decide +kernel
theorem dX6_test_43 : decode cX6_test 43 = .ok (.ireturn, 1) := by decide +kernel
theorem dX6_test_44 : decode cX6_test 44 = .ok (.aload_n 0, 1) := by decide +kernel
theorem dX6_test_45 : decode cX6_test 45 = .ok (.getfield 59, 3) := by decide +kernel
theorem dX6_test_48 : decode cX6_test 48 = .ok (.iload_n 1, 1) := by decide +kernel
theorem dX6_test_49 : decode cX6_test 49 = .ok (.iconst 1, 1) := by decide +kernel
theorem dX6_test_50 : decode cX6_test 50 = .ok (.bastore, 1) := by decide +kernel
theorem dX6_test_51 : decode cX6_test 51 = .ok (.aload_n 0, 1) := by decide +kernel
theorem dX6_test_52 : decode cX6_test 52 = .ok (.getfield 74, 3) := by decide +kernel
theorem dX6_test_55 : decode cX6_test 55 = .ok (.bipush 20, 2) := by decide +kernel
theorem dX6_test_57 : decode cX6_test 57 = .ok (.aload_n 0, 1) := by decide +kernel
theorem dX6_test_58 : decode cX6_test 58 = .ok (.getfield 53, 3) := by decide +kernel
theorem dX6_test_61 : decode cX6_test 61 = .ok (.iload_n 1, 1) := by decide +kernel
theorem dX6_test_62 : decode cX6_test 62 = .ok (.iaload, 1) := by decide +kernel
theorem dX6_test_63 : decode cX6_test 63 = .ok (.imul, 1) := by decide +kernel
theorem dX6_test_64 : decode cX6_test 64 = .ok (.aload_n 0, 1) := by decide +kernel
theorem dX6_test_65 : decode cX6_test 65 = .ok (.getfield 22, 3) := by decide +kernel
theorem dX6_test_68 : decode cX6_test 68 = .ok (.iload_n 1, 1) := by decide +kernel
theorem dX6_test_69 : decode cX6_test 69 = .ok (.iaload, 1) := by decide +kernel
theorem dX6_test_70 : decode cX6_test 70 = .ok (.iadd, 1) := by decide +kernel
theorem dX6_test_71 : decode cX6_test 71 = .ok (.iconst 1, 1) := by decide +kernel
theorem dX6_test_72 : decode cX6_test 72 = .ok (.bastore, 1) := by decide +kernel
theorem dX6_test_73 : decode cX6_test 73 = .ok (.aload_n 0, 1) := by decide +kernel
theorem dX6_test_74 : decode cX6_test 74 = .ok (.iload_n 1, 1) := by decide +kernel
theorem dX6_test_75 : decode cX6_test 75 = .ok (.invokevirtual 174, 3) := by decide +kernel
theorem dX6_test_78 : decode cX6_test 78 = .ok (.ireturn, 1) := by decide +kernel
set_option maxRecDepth 20000 in
theorem ggX6_paper_X6_isBillet : GoodIn wsX6_paper wsX6_isBillet := goodIn_r _ [11, 12, 13, 14, 10, 15, 34, 35, 36, 37, 38, 39, 40, 41, 42, 43, 44, 45, 46, 47, 48, 49, 50, 51, 52, 53, 54, 55, 56, 57, 58, 59, 60, 61, 62, 63, 64, 65] (by decide +kernel) (by decide +kernel)
set_option maxRecDepth 20000 in
theorem gX6_paper_X6_isBillet : GoodIn wsX6_paper (wsV RX6 114 RX6 yX6_isBillet wsX6_isBillet) := goodIn_app (goodIn_of _ (by decide +kernel)) ggX6_paper_X6_isBillet
set_option maxRecDepth 20000 in
theorem ggX6_paper_X6_in : GoodIn wsX6_paper wsX6_in := goodIn_r _ [15] (by decide +kernel) (by decide +kernel)
set_option maxRecDepth 20000 in
theorem gX6_paper_X6_in : GoodIn wsX6_paper (va_wsS RX6 96 yX6_in wsX6_in) := goodIn_app (goodIn_of _ (by decide +kernel)) ggX6_paper_X6_in
set_option maxRecDepth 20000 in
theorem ggX6_paper_X6_goes : GoodIn wsX6_paper wsX6_goes := goodIn_r _ [19, 20, 34, 35, 36, 37, 38, 39, 40, 41, 42, 43, 44, 45, 46, 47, 48, 49, 50, 51, 52, 53, 54, 55, 56, 57, 58, 59, 60, 61, 62, 63, 64, 65] (by decide +kernel) (by decide +kernel)
set_option maxRecDepth 20000 in
theorem gX6_paper_X6_goes : GoodIn wsX6_paper (wsV RX6 103 RX6 yX6_goes wsX6_goes) := goodIn_app (goodIn_of _ (by decide +kernel)) ggX6_paper_X6_goes
set_option maxRecDepth 20000 in
theorem ggX6_paper_X6_softest : GoodIn wsX6_paper wsX6_softest := goodIn_r _ [24, 25, 26, 27, 10, 28, 29, 30, 31, 32, 33, 34, 35, 36, 37, 38, 39, 40, 41, 42, 43, 44, 45, 46, 47, 48, 49, 50, 51, 52, 53, 54, 55, 56, 57, 58, 59, 60, 61, 62, 63, 64, 65] (by decide +kernel) (by decide +kernel)
set_option maxRecDepth 20000 in
theorem gX6_paper_X6_softest : GoodIn wsX6_paper (wsV RX6 174 RX6 yX6_softest wsX6_softest) := goodIn_app (goodIn_of _ (by decide +kernel)) ggX6_paper_X6_softest
theorem dX6_paper_0 : decode cX6_paper 0 = .ok (.aload_n 0, 1) := by decide +kernel
theorem dX6_paper_1 : decode cX6_paper 1 = .ok (.aload_n 0, 1) := by decide +kernel
theorem dX6_paper_2 : decode cX6_paper 2 = .ok (.iload_n 1, 1) := by decide +kernel
theorem dX6_paper_3 : decode cX6_paper 3 = .ok (.invokevirtual 114, 3) := by decide +kernel
theorem dX6_paper_6 : decode cX6_paper 6 = .ok (.iload_n 2, 1) := by decide +kernel
theorem dX6_paper_7 : decode cX6_paper 7 = .ok (.iconst 0, 1) := by decide +kernel
theorem dX6_paper_8 : decode cX6_paper 8 = .ok (.bipush 70, 2) := by decide +kernel
theorem dX6_paper_10 : decode cX6_paper 10 = .ok (.invokestatic 96, 3) := by decide +kernel
theorem dX6_paper_13 : decode cX6_paper 13 = .ok (.iconst 1, 1) := by decide +kernel
theorem dX6_paper_14 : decode cX6_paper 14 = .ok (.invokevirtual 103, 3) := by decide +kernel
theorem dX6_paper_17 : decode cX6_paper 17 = .ok (.ifCond .ne 5, 3) := by decide +kernel
theorem dX6_paper_20 : decode cX6_paper 20 = .ok (.iconst 0, 1) := by decide +kernel
theorem dX6_paper_21 : decode cX6_paper 21 = .ok (.ireturn, 1) := by decide +kernel
theorem dX6_paper_22 : decode cX6_paper 22 = .ok (.aload_n 0, 1) := by decide +kernel
theorem dX6_paper_23 : decode cX6_paper 23 = .ok (.getfield 59, 3) := by decide +kernel
theorem dX6_paper_26 : decode cX6_paper 26 = .ok (.iload_n 1, 1) := by decide +kernel
theorem dX6_paper_27 : decode cX6_paper 27 = .ok (.baload, 1) := by decide +kernel
theorem dX6_paper_28 : decode cX6_paper 28 = .ok (.ifCond .ne 44, 3) := by decide +kernel
theorem dX6_paper_31 : decode cX6_paper 31 = .ok (.aload_n 0, 1) := by decide +kernel
theorem dX6_paper_32 : decode cX6_paper 32 = .ok (.getfield 53, 3) := by decide +kernel
theorem dX6_paper_35 : decode cX6_paper 35 = .ok (.iload_n 1, 1) := by decide +kernel
theorem dX6_paper_36 : decode cX6_paper 36 = .ok (.iaload, 1) := by decide +kernel
theorem dX6_paper_37 : decode cX6_paper 37 = .ok (.iconst (-1), 1) := by decide +kernel
theorem dX6_paper_38 : decode cX6_paper 38 = .ok (.if_icmp .eq 34, 3) := by decide +kernel
theorem dX6_paper_41 : decode cX6_paper 41 = .ok (.aload_n 0, 1) := by decide +kernel
theorem dX6_paper_42 : decode cX6_paper 42 = .ok (.getfield 46, 3) := by decide +kernel
theorem dX6_paper_45 : decode cX6_paper 45 = .ok (.iload_n 1, 1) := by decide +kernel
theorem dX6_paper_46 : decode cX6_paper 46 = .ok (.baload, 1) := by decide +kernel
theorem dX6_paper_47 : decode cX6_paper 47 = .ok (.ifCond .ne 25, 3) := by decide +kernel
theorem dX6_paper_50 : decode cX6_paper 50 = .ok (.aload_n 0, 1) := by decide +kernel
theorem dX6_paper_51 : decode cX6_paper 51 = .ok (.getfield 43, 3) := by decide +kernel
theorem dX6_paper_54 : decode cX6_paper 54 = .ok (.iload_n 1, 1) := by decide +kernel
theorem dX6_paper_55 : decode cX6_paper 55 = .ok (.iaload, 1) := by decide +kernel
theorem dX6_paper_56 : decode cX6_paper 56 = .ok (.ifCond .ne 16, 3) := by decide +kernel
theorem dX6_paper_59 : decode cX6_paper 59 = .ok (.aload_n 0, 1) := by decide +kernel
theorem dX6_paper_60 : decode cX6_paper 60 = .ok (.iload_n 1, 1) := by decide +kernel
theorem dX6_paper_61 : decode cX6_paper 61 = .ok (.invokevirtual 174, 3) := by decide +kernel
theorem dX6_paper_64 : decode cX6_paper 64 = .ok (.iload_n 2, 1) := by decide +kernel
theorem dX6_paper_65 : decode cX6_paper 65 = .ok (.if_icmp .lt 7, 3) := by decide +kernel
theorem dX6_paper_68 : decode cX6_paper 68 = .ok (.iconst 1, 1) := by decide +kernel
theorem dX6_paper_69 : decode cX6_paper 69 = .ok (.goto 4, 3) := by decide +kernel
theorem dX6_paper_72 : decode cX6_paper 72 = .ok (.iconst 0, 1) := by decide +kernel
theorem dX6_paper_73 : decode cX6_paper 73 = .ok (.istore_n 3, 1) := by decide +kernel
theorem dX6_paper_74 : decode cX6_paper 74 = .ok (.iload_n 3, 1) := by decide +kernel
theorem dX6_paper_75 : decode cX6_paper 75 = .ok (.ifCond .eq 36, 3) := by decide +kernel
theorem dX6_paper_78 : decode cX6_paper 78 = .ok (.aload_n 0, 1) := by decide +kernel
theorem dX6_paper_79 : decode cX6_paper 79 = .ok (.getfield 74, 3) := by decide +kernel
theorem dX6_paper_82 : decode cX6_paper 82 = .ok (.bipush 20, 2) := by decide +kernel
theorem dX6_paper_84 : decode cX6_paper 84 = .ok (.aload_n 0, 1) := by decide +kernel
theorem dX6_paper_85 : decode cX6_paper 85 = .ok (.getfield 53, 3) := by decide +kernel
theorem dX6_paper_88 : decode cX6_paper 88 = .ok (.iload_n 1, 1) := by decide +kernel
theorem dX6_paper_89 : decode cX6_paper 89 = .ok (.iaload, 1) := by decide +kernel
theorem dX6_paper_90 : decode cX6_paper 90 = .ok (.imul, 1) := by decide +kernel
theorem dX6_paper_91 : decode cX6_paper 91 = .ok (.aload_n 0, 1) := by decide +kernel
theorem dX6_paper_92 : decode cX6_paper 92 = .ok (.getfield 22, 3) := by decide +kernel
theorem dX6_paper_95 : decode cX6_paper 95 = .ok (.iload_n 1, 1) := by decide +kernel
theorem dX6_paper_96 : decode cX6_paper 96 = .ok (.iaload, 1) := by decide +kernel
theorem dX6_paper_97 : decode cX6_paper 97 = .ok (.iadd, 1) := by decide +kernel
theorem dX6_paper_98 : decode cX6_paper 98 = .ok (.baload, 1) := by decide +kernel
theorem dX6_paper_99 : decode cX6_paper 99 = .ok (.ifCond .eq 12, 3) := by decide +kernel
theorem dX6_paper_102 : decode cX6_paper 102 = .ok (.aload_n 0, 1) := by decide +kernel
theorem dX6_paper_103 : decode cX6_paper 103 = .ok (.getfield 22, 3) := by decide +kernel
theorem dX6_paper_106 : decode cX6_paper 106 = .ok (.iload_n 1, 1) := by decide +kernel
theorem dX6_paper_107 : decode cX6_paper 107 = .ok (.iaload, 1) := by decide +kernel
theorem dX6_paper_108 : decode cX6_paper 108 = .ok (.goto 4, 3) := by decide +kernel
theorem dX6_paper_111 : decode cX6_paper 111 = .ok (.iconst (-1), 1) := by decide +kernel
theorem dX6_paper_112 : decode cX6_paper 112 = .ok (.ireturn, 1) := by decide +kernel
theorem dX6_acted_0 : decode cX6_acted 0 = .ok (.iconst 0, 1) := by decide +kernel
theorem dX6_acted_1 : decode cX6_acted 1 = .ok (.istore_n 2, 1) := by decide +kernel
theorem dX6_acted_2 : decode cX6_acted 2 = .ok (.iconst 0, 1) := by decide +kernel
theorem dX6_acted_3 : decode cX6_acted 3 = .ok (.istore_n 3, 1) := by decide +kernel
theorem dX6_acted_4 : decode cX6_acted 4 = .ok (.iload_n 3, 1) := by decide +kernel
theorem dX6_acted_5 : decode cX6_acted 5 = .ok (.bipush 8, 2) := by decide +kernel
theorem dX6_acted_7 : decode cX6_acted 7 = .ok (.if_icmp .ge 68, 3) := by decide +kernel
theorem dX6_acted_10 : decode cX6_acted 10 = .ok (.iload_n 1, 1) := by decide +kernel
theorem dX6_acted_11 : decode cX6_acted 11 = .ok (.ifCond .ne 25, 3) := by decide +kernel
theorem dX6_acted_14 : decode cX6_acted 14 = .ok (.iload_n 3, 1) := by decide +kernel
theorem dX6_acted_15 : decode cX6_acted 15 = .ok (.iconst 4, 1) := by decide +kernel
theorem dX6_acted_16 : decode cX6_acted 16 = .ok (.if_icmp .ge 9, 3) := by decide +kernel
theorem dX6_acted_19 : decode cX6_acted 19 = .ok (.iconst 2, 1) := by decide +kernel
theorem dX6_acted_20 : decode cX6_acted 20 = .ok (.iload_n 3, 1) := by decide +kernel
theorem dX6_acted_21 : decode cX6_acted 21 = .ok (.imul, 1) := by decide +kernel
theorem dX6_acted_22 : decode cX6_acted 22 = .ok (.goto 34, 3) := by decide +kernel
theorem dX6_acted_25 : decode cX6_acted 25 = .ok (.iconst 2, 1) := by decide +kernel
theorem dX6_acted_26 : decode cX6_acted 26 = .ok (.bipush 7, 2) := by decide +kernel
theorem dX6_acted_28 : decode cX6_acted 28 = .ok (.iload_n 3, 1) := by decide +kernel
theorem dX6_acted_29 : decode cX6_acted 29 = .ok (.isub, 1) := by decide +kernel
theorem dX6_acted_30 : decode cX6_acted 30 = .ok (.imul, 1) := by decide +kernel
theorem dX6_acted_31 : decode cX6_acted 31 = .ok (.iconst 1, 1) := by decide +kernel
theorem dX6_acted_32 : decode cX6_acted 32 = .ok (.iadd, 1) := by decide +kernel
theorem dX6_acted_33 : decode cX6_acted 33 = .ok (.goto 23, 3) := by decide +kernel
theorem dX6_acted_36 : decode cX6_acted 36 = .ok (.iload_n 1, 1) := by decide +kernel
theorem dX6_acted_37 : decode cX6_acted 37 = .ok (.iconst 1, 1) := by decide +kernel
theorem dX6_acted_38 : decode cX6_acted 38 = .ok (.if_icmp .ne 12, 3) := by decide +kernel
theorem dX6_acted_41 : decode cX6_acted 41 = .ok (.iload_n 3, 1) := by decide +kernel
theorem dX6_acted_42 : decode cX6_acted 42 = .ok (.iconst 1, 1) := by decide +kernel
theorem dX6_acted_43 : decode cX6_acted 43 = .ok (.iadd, 1) := by decide +kernel
theorem dX6_acted_44 : decode cX6_acted 44 = .ok (.bipush 8, 2) := by decide +kernel
