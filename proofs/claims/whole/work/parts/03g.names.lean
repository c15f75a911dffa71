theorem dX6_acted_46 : decode cX6_acted 46 = .ok (.irem, 1) := by decide +kernel
theorem dX6_acted_47 : decode cX6_acted 47 = .ok (.goto 9, 3) := by decide +kernel
theorem dX6_acted_50 : decode cX6_acted 50 = .ok (.iload_n 3, 1) := by decide +kernel
theorem dX6_acted_51 : decode cX6_acted 51 = .ok (.iconst 4, 1) := by decide +kernel
theorem dX6_acted_52 : decode cX6_acted 52 = .ok (.iadd, 1) := by decide +kernel
theorem dX6_acted_53 : decode cX6_acted 53 = .ok (.bipush 8, 2) := by decide +kernel
theorem dX6_acted_55 : decode cX6_acted 55 = .ok (.irem, 1) := by decide +kernel
theorem dX6_acted_56 : decode cX6_acted 56 = .ok (.istore 4, 2) := by decide +kernel
theorem dX6_acted_58 : decode cX6_acted 58 = .ok (.iload_n 2, 1) := by decide +kernel
theorem dX6_acted_59 : decode cX6_acted 59 = .ok (.iload_n 0, 1) := by decide +kernel
theorem dX6_acted_60 : decode cX6_acted 60 = .ok (.iload_n 3, 1) := by decide +kernel
theorem dX6_acted_61 : decode cX6_acted 61 = .ok (.ishr, 1) := by decide +kernel
theorem dX6_acted_62 : decode cX6_acted 62 = .ok (.iconst 1, 1) := by decide +kernel
theorem dX6_acted_63 : decode cX6_acted 63 = .ok (.iand, 1) := by decide +kernel
theorem dX6_acted_64 : decode cX6_acted 64 = .ok (.iload 4, 2) := by decide +kernel
theorem dX6_acted_66 : decode cX6_acted 66 = .ok (.ishl, 1) := by decide +kernel
theorem dX6_acted_67 : decode cX6_acted 67 = .ok (.ior, 1) := by decide +kernel
theorem dX6_acted_68 : decode cX6_acted 68 = .ok (.istore_n 2, 1) := by decide +kernel
theorem dX6_acted_69 : decode cX6_acted 69 = .ok (.iinc 3 1, 3) := by decide +kernel
theorem dX6_acted_72 : decode cX6_acted 72 = .ok (.goto (-68), 3) := by decide +kernel
theorem dX6_acted_75 : decode cX6_acted 75 = .ok (.iload_n 2, 1) := by decide +kernel
theorem dX6_acted_76 : decode cX6_acted 76 = .ok (.ireturn, 1) := by decide +kernel
set_option maxRecDepth 20000 in
theorem ggX6_layer_X6_isBillet : GoodIn wsX6_layer wsX6_isBillet := goodIn_r _ [7, 8, 9, 10, 6, 11, 20, 21, 22, 23, 24, 25, 26, 27, 28, 29, 30, 31, 32, 33, 34, 35, 36, 37, 38, 39, 40, 41, 42, 43, 44, 45, 46, 47, 48, 49, 50, 51] (by decide +kernel) (by decide +kernel)
set_option maxRecDepth 20000 in
theorem gX6_layer_X6_isBillet : GoodIn wsX6_layer (wsV RX6 114 RX6 yX6_isBillet wsX6_isBillet) := goodIn_app (goodIn_of _ (by decide +kernel)) ggX6_layer_X6_isBillet
set_option maxRecDepth 20000 in
theorem ggX6_layer_X6_in : GoodIn wsX6_layer wsX6_in := goodIn_r _ [11] (by decide +kernel) (by decide +kernel)
set_option maxRecDepth 20000 in
theorem gX6_layer_X6_in : GoodIn wsX6_layer (va_wsS RX6 96 yX6_in wsX6_in) := goodIn_app (goodIn_of _ (by decide +kernel)) ggX6_layer_X6_in
set_option maxRecDepth 20000 in
theorem ggX6_layer_X6_goes : GoodIn wsX6_layer wsX6_goes := goodIn_r _ [15, 16, 20, 21, 22, 23, 24, 25, 26, 27, 28, 29, 30, 31, 32, 33, 34, 35, 36, 37, 38, 39, 40, 41, 42, 43, 44, 45, 46, 47, 48, 49, 50, 51] (by decide +kernel) (by decide +kernel)
set_option maxRecDepth 20000 in
theorem gX6_layer_X6_goes : GoodIn wsX6_layer (wsV RX6 103 RX6 yX6_goes wsX6_goes) := goodIn_app (goodIn_of _ (by decide +kernel)) ggX6_layer_X6_goes
set_option maxRecDepth 20000 in
theorem ggX6_layer_X6_acted : GoodIn wsX6_layer wsX6_acted := goodIn_r _ [19] (by decide +kernel) (by decide +kernel)
set_option maxRecDepth 20000 in
theorem gX6_layer_X6_acted : GoodIn wsX6_layer (va_wsS RX6 177 yX6_acted wsX6_acted) := goodIn_app (goodIn_of _ (by decide +kernel)) ggX6_layer_X6_acted
theorem dX6_layer_0 : decode cX6_layer 0 = .ok (.aload_n 0, 1) := by decide +kernel
theorem dX6_layer_1 : decode cX6_layer 1 = .ok (.iload_n 1, 1) := by decide +kernel
theorem dX6_layer_2 : decode cX6_layer 2 = .ok (.invokevirtual 114, 3) := by decide +kernel
theorem dX6_layer_5 : decode cX6_layer 5 = .ok (.istore_n 3, 1) := by decide +kernel
theorem dX6_layer_6 : decode cX6_layer 6 = .ok (.aload_n 0, 1) := by decide +kernel
theorem dX6_layer_7 : decode cX6_layer 7 = .ok (.iload_n 3, 1) := by decide +kernel
theorem dX6_layer_8 : decode cX6_layer 8 = .ok (.iload_n 2, 1) := by decide +kernel
theorem dX6_layer_9 : decode cX6_layer 9 = .ok (.iconst 0, 1) := by decide +kernel
theorem dX6_layer_10 : decode cX6_layer 10 = .ok (.iconst 2, 1) := by decide +kernel
theorem dX6_layer_11 : decode cX6_layer 11 = .ok (.invokestatic 96, 3) := by decide +kernel
theorem dX6_layer_14 : decode cX6_layer 14 = .ok (.iload_n 3, 1) := by decide +kernel
theorem dX6_layer_15 : decode cX6_layer 15 = .ok (.ifCond .eq 27, 3) := by decide +kernel
theorem dX6_layer_18 : decode cX6_layer 18 = .ok (.aload_n 0, 1) := by decide +kernel
theorem dX6_layer_19 : decode cX6_layer 19 = .ok (.getfield 34, 3) := by decide +kernel
theorem dX6_layer_22 : decode cX6_layer 22 = .ok (.iload_n 3, 1) := by decide +kernel
theorem dX6_layer_23 : decode cX6_layer 23 = .ok (.ifCond .eq 7, 3) := by decide +kernel
theorem dX6_layer_26 : decode cX6_layer 26 = .ok (.iload_n 1, 1) := by decide +kernel
theorem dX6_layer_27 : decode cX6_layer 27 = .ok (.goto 4, 3) := by decide +kernel
theorem dX6_layer_30 : decode cX6_layer 30 = .ok (.iconst 0, 1) := by decide +kernel
theorem dX6_layer_31 : decode cX6_layer 31 = .ok (.iaload, 1) := by decide +kernel
theorem dX6_layer_32 : decode cX6_layer 32 = .ok (.sipush 900, 3) := by decide +kernel
theorem dX6_layer_35 : decode cX6_layer 35 = .ok (.if_icmp .lt 7, 3) := by decide +kernel
theorem dX6_layer_38 : decode cX6_layer 38 = .ok (.iconst 1, 1) := by decide +kernel
theorem dX6_layer_39 : decode cX6_layer 39 = .ok (.goto 4, 3) := by decide +kernel
theorem dX6_layer_42 : decode cX6_layer 42 = .ok (.iconst 0, 1) := by decide +kernel
theorem dX6_layer_43 : decode cX6_layer 43 = .ok (.invokevirtual 103, 3) := by decide +kernel
theorem dX6_layer_46 : decode cX6_layer 46 = .ok (.ifCond .ne 5, 3) := by decide +kernel
theorem dX6_layer_49 : decode cX6_layer 49 = .ok (.iconst 0, 1) := by decide +kernel
theorem dX6_layer_50 : decode cX6_layer 50 = .ok (.ireturn, 1) := by decide +kernel
theorem dX6_layer_51 : decode cX6_layer 51 = .ok (.aload_n 0, 1) := by decide +kernel
theorem dX6_layer_52 : decode cX6_layer 52 = .ok (.getfield 50, 3) := by decide +kernel
theorem dX6_layer_55 : decode cX6_layer 55 = .ok (.iload_n 1, 1) := by decide +kernel
theorem dX6_layer_56 : decode cX6_layer 56 = .ok (.aload_n 0, 1) := by decide +kernel
theorem dX6_layer_57 : decode cX6_layer 57 = .ok (.getfield 50, 3) := by decide +kernel
theorem dX6_layer_60 : decode cX6_layer 60 = .ok (.iload_n 1, 1) := by decide +kernel
theorem dX6_layer_61 : decode cX6_layer 61 = .ok (.iaload, 1) := by decide +kernel
theorem dX6_layer_62 : decode cX6_layer 62 = .ok (.iload_n 2, 1) := by decide +kernel
theorem dX6_layer_63 : decode cX6_layer 63 = .ok (.invokestatic 177, 3) := by decide +kernel
theorem dX6_layer_66 : decode cX6_layer 66 = .ok (.iastore, 1) := by decide +kernel
theorem dX6_layer_67 : decode cX6_layer 67 = .ok (.aload_n 0, 1) := by decide +kernel
theorem dX6_layer_68 : decode cX6_layer 68 = .ok (.getfield 50, 3) := by decide +kernel
theorem dX6_layer_71 : decode cX6_layer 71 = .ok (.iload_n 1, 1) := by decide +kernel
theorem dX6_layer_72 : decode cX6_layer 72 = .ok (.iaload, 1) := by decide +kernel
theorem dX6_layer_73 : decode cX6_layer 73 = .ok (.ireturn, 1) := by decide +kernel
set_option maxRecDepth 20000 in
theorem ggX6_finds_X6_acted : GoodIn wsX6_finds wsX6_acted := goodIn_r _ [6] (by decide +kernel) (by decide +kernel)
set_option maxRecDepth 20000 in
theorem gX6_finds_X6_acted : GoodIn wsX6_finds (va_wsS RX6 177 yX6_acted wsX6_acted) := goodIn_app (goodIn_of _ (by decide +kernel)) ggX6_finds_X6_acted
theorem dX6_finds_0 : decode cX6_finds 0 = .ok (.iconst 0, 1) := by decide +kernel
theorem dX6_finds_1 : decode cX6_finds 1 = .ok (.istore_n 2, 1) := by decide +kernel
theorem dX6_finds_2 : decode cX6_finds 2 = .ok (.iload_n 2, 1) := by decide +kernel
theorem dX6_finds_3 : decode cX6_finds 3 = .ok (.sipush 256, 3) := by decide +kernel
theorem dX6_finds_6 : decode cX6_finds 6 = .ok (.if_icmp .ge 16, 3) := by decide +kernel
theorem dX6_finds_9 : decode cX6_finds 9 = .ok (.aload_n 0, 1) := by decide +kernel
theorem dX6_finds_10 : decode cX6_finds 10 = .ok (.getfield 80, 3) := by decide +kernel
theorem dX6_finds_13 : decode cX6_finds 13 = .ok (.iload_n 2, 1) := by decide +kernel
theorem dX6_finds_14 : decode cX6_finds 14 = .ok (.iconst (-1), 1) := by decide +kernel
theorem dX6_finds_15 : decode cX6_finds 15 = .ok (.iastore, 1) := by decide +kernel
theorem dX6_finds_16 : decode cX6_finds 16 = .ok (.iinc 2 1, 3) := by decide +kernel
theorem dX6_finds_19 : decode cX6_finds 19 = .ok (.goto (-17), 3) := by decide +kernel
theorem dX6_finds_22 : decode cX6_finds 22 = .ok (.aload_n 0, 1) := by decide +kernel
theorem dX6_finds_23 : decode cX6_finds 23 = .ok (.getfield 80, 3) := by decide +kernel
theorem dX6_finds_26 : decode cX6_finds 26 = .ok (.iload_n 1, 1) := by decide +kernel
theorem dX6_finds_27 : decode cX6_finds 27 = .ok (.iconst 0, 1) := by decide +kernel
theorem dX6_finds_28 : decode cX6_finds 28 = .ok (.iastore, 1) := by decide +kernel
theorem dX6_finds_29 : decode cX6_finds 29 = .ok (.aload_n 0, 1) := by decide +kernel
theorem dX6_finds_30 : decode cX6_finds 30 = .ok (.getfield 83, 3) := by decide +kernel
theorem dX6_finds_33 : decode cX6_finds 33 = .ok (.iconst 0, 1) := by decide +kernel
theorem dX6_finds_34 : decode cX6_finds 34 = .ok (.iload_n 1, 1) := by decide +kernel
theorem dX6_finds_35 : decode cX6_finds 35 = .ok (.iastore, 1) := by decide +kernel
theorem dX6_finds_36 : decode cX6_finds 36 = .ok (.iconst 1, 1) := by decide +kernel
theorem dX6_finds_37 : decode cX6_finds 37 = .ok (.istore_n 2, 1) := by decide +kernel
theorem dX6_finds_38 : decode cX6_finds 38 = .ok (.iconst 0, 1) := by decide +kernel
theorem dX6_finds_39 : decode cX6_finds 39 = .ok (.istore_n 3, 1) := by decide +kernel
theorem dX6_finds_40 : decode cX6_finds 40 = .ok (.iload_n 3, 1) := by decide +kernel
theorem dX6_finds_41 : decode cX6_finds 41 = .ok (.iload_n 2, 1) := by decide +kernel
theorem dX6_finds_42 : decode cX6_finds 42 = .ok (.if_icmp .ge 79, 3) := by decide +kernel
theorem dX6_finds_45 : decode cX6_finds 45 = .ok (.iconst 0, 1) := by decide +kernel
theorem dX6_finds_46 : decode cX6_finds 46 = .ok (.istore 4, 2) := by decide +kernel
theorem dX6_finds_48 : decode cX6_finds 48 = .ok (.iload 4, 2) := by decide +kernel
theorem dX6_finds_50 : decode cX6_finds 50 = .ok (.iconst 2, 1) := by decide +kernel
theorem dX6_finds_51 : decode cX6_finds 51 = .ok (.if_icmp .gt 64, 3) := by decide +kernel
theorem dX6_finds_54 : decode cX6_finds 54 = .ok (.aload_n 0, 1) := by decide +kernel
theorem dX6_finds_55 : decode cX6_finds 55 = .ok (.getfield 83, 3) := by decide +kernel
theorem dX6_finds_58 : decode cX6_finds 58 = .ok (.iload_n 3, 1) := by decide +kernel
theorem dX6_finds_59 : decode cX6_finds 59 = .ok (.iaload, 1) := by decide +kernel
theorem dX6_finds_60 : decode cX6_finds 60 = .ok (.iload 4, 2) := by decide +kernel
theorem dX6_finds_62 : decode cX6_finds 62 = .ok (.invokestatic 177, 3) := by decide +kernel
theorem dX6_finds_65 : decode cX6_finds 65 = .ok (.istore 5, 2) := by decide +kernel
theorem dX6_finds_67 : decode cX6_finds 67 = .ok (.aload_n 0, 1) := by decide +kernel
theorem dX6_finds_68 : decode cX6_finds 68 = .ok (.getfield 80, 3) := by decide +kernel
theorem dX6_finds_71 : decode cX6_finds 71 = .ok (.iload 5, 2) := by decide +kernel
theorem dX6_finds_73 : decode cX6_finds 73 = .ok (.iaload, 1) := by decide +kernel
theorem dX6_finds_74 : decode cX6_finds 74 = .ok (.iconst (-1), 1) := by decide +kernel
theorem dX6_finds_75 : decode cX6_finds 75 = .ok (.if_icmp .ne 34, 3) := by decide +kernel
theorem dX6_finds_78 : decode cX6_finds 78 = .ok (.aload_n 0, 1) := by decide +kernel
theorem dX6_finds_79 : decode cX6_finds 79 = .ok (.getfield 80, 3) := by decide +kernel
theorem dX6_finds_82 : decode cX6_finds 82 = .ok (.iload 5, 2) := by decide +kernel
theorem dX6_finds_84 : decode cX6_finds 84 = .ok (.aload_n 0, 1) := by decide +kernel
theorem dX6_finds_85 : decode cX6_finds 85 = .ok (.getfield 80, 3) := by decide +kernel
theorem dX6_finds_88 : decode cX6_finds 88 = .ok (.aload_n 0, 1) := by decide +kernel
theorem dX6_finds_89 : decode cX6_finds 89 = .ok (.getfield 83, 3) := by decide +kernel
theorem dX6_finds_92 : decode cX6_finds 92 = .ok (.iload_n 3, 1) := by decide +kernel
theorem dX6_finds_93 : decode cX6_finds 93 = .ok (.iaload, 1) := by decide +kernel
theorem dX6_finds_94 : decode cX6_finds 94 = .ok (.iaload, 1) := by decide +kernel
theorem dX6_finds_95 : decode cX6_finds 95 = .ok (.iconst 1, 1) := by decide +kernel
theorem dX6_finds_96 : decode cX6_finds 96 = .ok (.iadd, 1) := by decide +kernel
theorem dX6_finds_97 : decode cX6_finds 97 = .ok (.iastore, 1) := by decide +kernel
theorem dX6_finds_98 : decode cX6_finds 98 = .ok (.aload_n 0, 1) := by decide +kernel
theorem dX6_finds_99 : decode cX6_finds 99 = .ok (.getfield 83, 3) := by decide +kernel
theorem dX6_finds_102 : decode cX6_finds 102 = .ok (.iload_n 2, 1) := by decide +kernel
theorem dX6_finds_103 : decode cX6_finds 103 = .ok (.iload 5, 2) := by decide +kernel
theorem dX6_finds_105 : decode cX6_finds 105 = .ok (.iastore, 1) := by decide +kernel
theorem dX6_finds_106 : decode cX6_finds 106 = .ok (.iinc 2 1, 3) := by decide +kernel
theorem dX6_finds_109 : decode cX6_finds 109 = .ok (.iinc 4 1, 3) := by decide +kernel
theorem dX6_finds_112 : decode cX6_finds 112 = .ok (.goto (-64), 3) := by decide +kernel
theorem dX6_finds_115 : decode cX6_finds 115 = .ok (.iinc 3 1, 3) := by decide +kernel
theorem dX6_finds_118 : decode cX6_finds 118 = .ok (.goto (-78), 3) := by decide +kernel
theorem dX6_finds_121 : decode cX6_finds 121 = .ok (.return_, 1) := by decide +kernel
set_option maxRecDepth 20000 in
theorem ggX6_fewestFrom_X6_finds : GoodIn wsX6_fewestFrom wsX6_finds := goodIn_r _ [6, 1, 7, 8, 9, 5, 10, 11, 12, 13, 14, 15, 16, 17, 18, 19, 20, 21, 22, 23, 24, 25, 26, 27, 28, 29, 30, 31, 32, 33, 34, 35, 36, 37, 38, 39, 40, 41, 42] (by decide +kernel) (by decide +kernel)
set_option maxRecDepth 20000 in
theorem gX6_fewestFrom_X6_finds : GoodIn wsX6_fewestFrom (wsV RX6 180 RX6 yX6_finds wsX6_finds) := goodIn_app (goodIn_of _ (by decide +kernel)) ggX6_fewestFrom_X6_finds
theorem dX6_fewestFrom_0 : decode cX6_fewestFrom 0 = .ok (.aload_n 0, 1) := by decide +kernel
theorem dX6_fewestFrom_1 : decode cX6_fewestFrom 1 = .ok (.iload_n 1, 1) := by decide +kernel
theorem dX6_fewestFrom_2 : decode cX6_fewestFrom 2 = .ok (.invokevirtual 180, 3) := by decide +kernel
theorem dX6_fewestFrom_5 : decode cX6_fewestFrom 5 = .ok (.aload_n 0, 1) := by decide +kernel
theorem dX6_fewestFrom_6 : decode cX6_fewestFrom 6 = .ok (.getfield 80, 3) := by decide +kernel
theorem dX6_fewestFrom_9 : decode cX6_fewestFrom 9 = .ok (.iload_n 2, 1) := by decide +kernel
theorem dX6_fewestFrom_10 : decode cX6_fewestFrom 10 = .ok (.iaload, 1) := by decide +kernel
theorem dX6_fewestFrom_11 : decode cX6_fewestFrom 11 = .ok (.ireturn, 1) := by decide +kernel
set_option maxRecDepth 20000 in
theorem ggX6_fewest_X6_isBillet : GoodIn wsX6_fewest wsX6_isBillet := goodIn_r _ [6, 7, 8, 9, 5, 10, 29, 30, 31, 32, 33, 34, 35, 36, 37, 38, 39, 40, 41, 42, 43, 44, 45, 46, 47, 48, 49, 50, 51, 52, 53, 54, 55, 56, 57, 58, 59, 60] (by decide +kernel) (by decide +kernel)
set_option maxRecDepth 20000 in
theorem gX6_fewest_X6_isBillet : GoodIn wsX6_fewest (wsV RX6 114 RX6 yX6_isBillet wsX6_isBillet) := goodIn_app (goodIn_of _ (by decide +kernel)) ggX6_fewest_X6_isBillet
set_option maxRecDepth 20000 in
theorem ggX6_fewest_X6_in : GoodIn wsX6_fewest wsX6_in := goodIn_r _ [10] (by decide +kernel) (by decide +kernel)
set_option maxRecDepth 20000 in
theorem gX6_fewest_X6_in : GoodIn wsX6_fewest (va_wsS RX6 96 yX6_in wsX6_in) := goodIn_app (goodIn_of _ (by decide +kernel)) ggX6_fewest_X6_in
set_option maxRecDepth 20000 in
theorem ggX6_fewest_X6_goes : GoodIn wsX6_fewest wsX6_goes := goodIn_r _ [14, 15, 29, 30, 31, 32, 33, 34, 35, 36, 37, 38, 39, 40, 41, 42, 43, 44, 45, 46, 47, 48, 49, 50, 51, 52, 53, 54, 55, 56, 57, 58, 59, 60] (by decide +kernel) (by decide +kernel)
set_option maxRecDepth 20000 in
theorem gX6_fewest_X6_goes : GoodIn wsX6_fewest (wsV RX6 103 RX6 yX6_goes wsX6_goes) := goodIn_app (goodIn_of _ (by decide +kernel)) ggX6_fewest_X6_goes
set_option maxRecDepth 20000 in
theorem ggX6_fewest_X6_fewestFrom : GoodIn wsX6_fewest wsX6_fewestFrom := goodIn_r _ [19, 20, 21, 22, 23, 5, 24, 25, 26, 27, 28, 29, 30, 31, 32, 33, 34, 35, 36, 37, 38, 39, 40, 41, 42, 43, 44, 45, 46, 47, 48, 49, 50, 51, 52, 53, 54, 55, 56, 57, 58, 59, 60] (by decide +kernel) (by decide +kernel)
set_option maxRecDepth 20000 in
theorem gX6_fewest_X6_fewestFrom : GoodIn wsX6_fewest (wsV RX6 183 RX6 yX6_fewestFrom wsX6_fewestFrom) := goodIn_app (goodIn_of _ (by decide +kernel)) ggX6_fewest_X6_fewestFrom
theorem dX6_fewest_0 : decode cX6_fewest 0 = .ok (.aload_n 0, 1) := by decide +kernel
theorem dX6_fewest_1 : decode cX6_fewest 1 = .ok (.aload_n 0, 1) := by decide +kernel
theorem dX6_fewest_2 : decode cX6_fewest 2 = .ok (.iload_n 1, 1) := by decide +kernel
theorem dX6_fewest_3 : decode cX6_fewest 3 = .ok (.invokevirtual 114, 3) := by decide +kernel
theorem dX6_fewest_6 : decode cX6_fewest 6 = .ok (.iload_n 2, 1) := by decide +kernel
theorem dX6_fewest_7 : decode cX6_fewest 7 = .ok (.iconst 0, 1) := by decide +kernel
theorem dX6_fewest_8 : decode cX6_fewest 8 = .ok (.sipush 255, 3) := by decide +kernel
theorem dX6_fewest_11 : decode cX6_fewest 11 = .ok (.invokestatic 96, 3) := by decide +kernel
theorem dX6_fewest_14 : decode cX6_fewest 14 = .ok (.iconst 1, 1) := by decide +kernel
theorem dX6_fewest_15 : decode cX6_fewest 15 = .ok (.invokevirtual 103, 3) := by decide +kernel
theorem dX6_fewest_18 : decode cX6_fewest 18 = .ok (.ifCond .eq 17, 3) := by decide +kernel
theorem dX6_fewest_21 : decode cX6_fewest 21 = .ok (.aload_n 0, 1) := by decide +kernel
theorem dX6_fewest_22 : decode cX6_fewest 22 = .ok (.aload_n 0, 1) := by decide +kernel
theorem dX6_fewest_23 : decode cX6_fewest 23 = .ok (.getfield 50, 3) := by decide +kernel
theorem dX6_fewest_26 : decode cX6_fewest 26 = .ok (.iload_n 1, 1) := by decide +kernel
theorem dX6_fewest_27 : decode cX6_fewest 27 = .ok (.iaload, 1) := by decide +kernel
theorem dX6_fewest_28 : decode cX6_fewest 28 = .ok (.iload_n 2, 1) := by decide +kernel
theorem dX6_fewest_29 : decode cX6_fewest 29 = .ok (.invokevirtual 183, 3) := by decide +kernel
theorem dX6_fewest_32 : decode cX6_fewest 32 = .ok (.goto 4, 3) := by decide +kernel
theorem dX6_fewest_35 : decode cX6_fewest 35 = .ok (.iconst 0, 1) := by decide +kernel
theorem dX6_fewest_36 : decode cX6_fewest 36 = .ok (.ireturn, 1) := by decide +kernel
set_option maxRecDepth 20000 in
theorem ggX6_first_X6_isBillet : GoodIn wsX6_first wsX6_isBillet := goodIn_r _ [6, 7, 8, 9, 5, 10, 29, 30, 31, 32, 33, 34, 35, 36, 37, 38, 39, 40, 41, 42, 43, 44, 45, 46, 47, 48, 49, 50, 51, 52, 53, 54, 55, 56, 57, 58, 59, 60] (by decide +kernel) (by decide +kernel)
set_option maxRecDepth 20000 in
theorem gX6_first_X6_isBillet : GoodIn wsX6_first (wsV RX6 114 RX6 yX6_isBillet wsX6_isBillet) := goodIn_app (goodIn_of _ (by decide +kernel)) ggX6_first_X6_isBillet
set_option maxRecDepth 20000 in
theorem ggX6_first_X6_in : GoodIn wsX6_first wsX6_in := goodIn_r _ [10] (by decide +kernel) (by decide +kernel)
set_option maxRecDepth 20000 in
theorem gX6_first_X6_in : GoodIn wsX6_first (va_wsS RX6 96 yX6_in wsX6_in) := goodIn_app (goodIn_of _ (by decide +kernel)) ggX6_first_X6_in
set_option maxRecDepth 20000 in
theorem ggX6_first_X6_goes : GoodIn wsX6_first wsX6_goes := goodIn_r _ [14, 15, 29, 30, 31, 32, 33, 34, 35, 36, 37, 38, 39, 40, 41, 42, 43, 44, 45, 46, 47, 48, 49, 50, 51, 52, 53, 54, 55, 56, 57, 58, 59, 60] (by decide +kernel) (by decide +kernel)
set_option maxRecDepth 20000 in
theorem gX6_first_X6_goes : GoodIn wsX6_first (wsV RX6 103 RX6 yX6_goes wsX6_goes) := goodIn_app (goodIn_of _ (by decide +kernel)) ggX6_first_X6_goes
set_option maxRecDepth 20000 in
theorem ggX6_first_X6_fewestFrom : GoodIn wsX6_first wsX6_fewestFrom := goodIn_r _ [19, 20, 21, 22, 23, 5, 24, 25, 26, 27, 28, 29, 30, 31, 32, 33, 34, 35, 36, 37, 38, 39, 40, 41, 42, 43, 44, 45, 46, 47, 48, 49, 50, 51, 52, 53, 54, 55, 56, 57, 58, 59, 60] (by decide +kernel) (by decide +kernel)
set_option maxRecDepth 20000 in
theorem gX6_first_X6_fewestFrom : GoodIn wsX6_first (wsV RX6 183 RX6 yX6_fewestFrom wsX6_fewestFrom) := goodIn_app (goodIn_of _ (by decide +kernel)) ggX6_first_X6_fewestFrom
set_option maxRecDepth 20000 in
theorem ggX6_first_X6_acted : GoodIn wsX6_first wsX6_acted := goodIn_r _ [28] (by decide +kernel) (by decide +kernel)
set_option maxRecDepth 20000 in
theorem gX6_first_X6_acted : GoodIn wsX6_first (va_wsS RX6 177 yX6_acted wsX6_acted) := goodIn_app (goodIn_of _ (by decide +kernel)) ggX6_first_X6_acted
theorem dX6_first_0 : decode cX6_first 0 = .ok (.aload_n 0, 1) := by decide +kernel
theorem dX6_first_1 : decode cX6_first 1 = .ok (.aload_n 0, 1) := by decide +kernel
theorem dX6_first_2 : decode cX6_first 2 = .ok (.iload_n 1, 1) := by decide +kernel
theorem dX6_first_3 : decode cX6_first 3 = .ok (.invokevirtual 114, 3) := by decide +kernel
theorem dX6_first_6 : decode cX6_first 6 = .ok (.iload_n 2, 1) := by decide +kernel
theorem dX6_first_7 : decode cX6_first 7 = .ok (.iconst 0, 1) := by decide +kernel
theorem dX6_first_8 : decode cX6_first 8 = .ok (.sipush 255, 3) := by decide +kernel
theorem dX6_first_11 : decode cX6_first 11 = .ok (.invokestatic 96, 3) := by decide +kernel
theorem dX6_first_14 : decode cX6_first 14 = .ok (.iconst 1, 1) := by decide +kernel
theorem dX6_first_15 : decode cX6_first 15 = .ok (.invokevirtual 103, 3) := by decide +kernel
theorem dX6_first_18 : decode cX6_first 18 = .ok (.ifCond .ne 5, 3) := by decide +kernel
theorem dX6_first_21 : decode cX6_first 21 = .ok (.iconst 0, 1) := by decide +kernel
theorem dX6_first_22 : decode cX6_first 22 = .ok (.ireturn, 1) := by decide +kernel
theorem dX6_first_23 : decode cX6_first 23 = .ok (.aload_n 0, 1) := by decide +kernel
theorem dX6_first_24 : decode cX6_first 24 = .ok (.aload_n 0, 1) := by decide +kernel
theorem dX6_first_25 : decode cX6_first 25 = .ok (.getfield 50, 3) := by decide +kernel
theorem dX6_first_28 : decode cX6_first 28 = .ok (.iload_n 1, 1) := by decide +kernel
theorem dX6_first_29 : decode cX6_first 29 = .ok (.iaload, 1) := by decide +kernel
theorem dX6_first_30 : decode cX6_first 30 = .ok (.iload_n 2, 1) := by decide +kernel
theorem dX6_first_31 : decode cX6_first 31 = .ok (.invokevirtual 183, 3) := by decide +kernel
theorem dX6_first_34 : decode cX6_first 34 = .ok (.istore_n 3, 1) := by decide +kernel
theorem dX6_first_35 : decode cX6_first 35 = .ok (.iconst (-1), 1) := by decide +kernel
theorem dX6_first_36 : decode cX6_first 36 = .ok (.istore 4, 2) := by decide +kernel
theorem dX6_first_38 : decode cX6_first 38 = .ok (.iconst 2, 1) := by decide +kernel
theorem dX6_first_39 : decode cX6_first 39 = .ok (.istore 5, 2) := by decide +kernel
theorem dX6_first_41 : decode cX6_first 41 = .ok (.iload 5, 2) := by decide +kernel
theorem dX6_first_43 : decode cX6_first 43 = .ok (.ifCond .lt 44, 3) := by decide +kernel
theorem dX6_first_46 : decode cX6_first 46 = .ok (.iload_n 3, 1) := by decide +kernel
theorem dX6_first_47 : decode cX6_first 47 = .ok (.ifCond .le 40, 3) := by decide +kernel
theorem dX6_first_50 : decode cX6_first 50 = .ok (.aload_n 0, 1) := by decide +kernel
theorem dX6_first_51 : decode cX6_first 51 = .ok (.aload_n 0, 1) := by decide +kernel
theorem dX6_first_52 : decode cX6_first 52 = .ok (.getfield 50, 3) := by decide +kernel
theorem dX6_first_55 : decode cX6_first 55 = .ok (.iload_n 1, 1) := by decide +kernel
theorem dX6_first_56 : decode cX6_first 56 = .ok (.iaload, 1) := by decide +kernel
theorem dX6_first_57 : decode cX6_first 57 = .ok (.iload 5, 2) := by decide +kernel
theorem dX6_first_59 : decode cX6_first 59 = .ok (.invokestatic 177, 3) := by decide +kernel
theorem dX6_first_62 : decode cX6_first 62 = .ok (.iload_n 2, 1) := by decide +kernel
theorem dX6_first_63 : decode cX6_first 63 = .ok (.invokevirtual 183, 3) := by decide +kernel
theorem dX6_first_66 : decode cX6_first 66 = .ok (.iload_n 3, 1) := by decide +kernel
theorem dX6_first_67 : decode cX6_first 67 = .ok (.iconst 1, 1) := by decide +kernel
theorem dX6_first_68 : decode cX6_first 68 = .ok (.isub, 1) := by decide +kernel
theorem dX6_first_69 : decode cX6_first 69 = .ok (.if_icmp .ne 8, 3) := by decide +kernel
theorem dX6_first_72 : decode cX6_first 72 = .ok (.iload 5, 2) := by decide +kernel
theorem dX6_first_74 : decode cX6_first 74 = .ok (.goto 5, 3) := by decide +kernel
theorem dX6_first_77 : decode cX6_first 77 = .ok (.iload 4, 2) := by decide +kernel
theorem dX6_first_79 : decode cX6_first 79 = .ok (.istore 4, 2) := by decide +kernel
theorem dX6_first_81 : decode cX6_first 81 = .ok (.iinc 5 (-1), 3) := by decide +kernel
theorem dX6_first_84 : decode cX6_first 84 = .ok (.goto (-43), 3) := by decide +kernel
theorem dX6_first_87 : decode cX6_first 87 = .ok (.iload 4, 2) := by decide +kernel
theorem dX6_first_89 : decode cX6_first 89 = .ok (.ireturn, 1) := by decide +kernel
set_option maxRecDepth 20000 in
theorem ggX6_job_X6_in : GoodIn wsX6_job wsX6_in := goodIn_r _ [6] (by decide +kernel) (by decide +kernel)
set_option maxRecDepth 20000 in
theorem gX6_job_X6_in : GoodIn wsX6_job (va_wsS RX6 96 yX6_in wsX6_in) := goodIn_app (goodIn_of _ (by decide +kernel)) ggX6_job_X6_in
set_option maxRecDepth 20000 in
theorem ggX6_job_X6_goes : GoodIn wsX6_job wsX6_goes := goodIn_r _ [10, 11, 12, 13, 14, 15, 16, 17, 18, 19, 20, 21, 22, 23, 24, 25, 26, 27, 28, 29, 30, 31, 32, 33, 34, 35, 36, 37, 38, 39, 40, 41, 42, 43] (by decide +kernel) (by decide +kernel)
set_option maxRecDepth 20000 in
theorem gX6_job_X6_goes : GoodIn wsX6_job (wsV RX6 103 RX6 yX6_goes wsX6_goes) := goodIn_app (goodIn_of _ (by decide +kernel)) ggX6_job_X6_goes
theorem dX6_job_0 : decode cX6_job 0 = .ok (.aload_n 0, 1) := by decide +kernel
theorem dX6_job_1 : decode cX6_job 1 = .ok (.iload_n 1, 1) := by decide +kernel
theorem dX6_job_2 : decode cX6_job 2 = .ok (.sipush 200, 3) := by decide +kernel
theorem dX6_job_5 : decode cX6_job 5 = .ok (.sipush 1300, 3) := by decide +kernel
theorem dX6_job_8 : decode cX6_job 8 = .ok (.invokestatic 96, 3) := by decide +kernel
theorem dX6_job_11 : decode cX6_job 11 = .ok (.aload_n 0, 1) := by decide +kernel
theorem dX6_job_12 : decode cX6_job 12 = .ok (.getfield 186, 3) := by decide +kernel
theorem dX6_job_15 : decode cX6_job 15 = .ok (.bipush 12, 2) := by decide +kernel
theorem dX6_job_17 : decode cX6_job 17 = .ok (.if_icmp .ge 7, 3) := by decide +kernel
theorem dX6_job_20 : decode cX6_job 20 = .ok (.iconst 1, 1) := by decide +kernel
theorem dX6_job_21 : decode cX6_job 21 = .ok (.goto 4, 3) := by decide +kernel
theorem dX6_job_24 : decode cX6_job 24 = .ok (.iconst 0, 1) := by decide +kernel
theorem dX6_job_25 : decode cX6_job 25 = .ok (.iconst 1, 1) := by decide +kernel
theorem dX6_job_26 : decode cX6_job 26 = .ok (.invokevirtual 103, 3) := by decide +kernel
theorem dX6_job_29 : decode cX6_job 29 = .ok (.ifCond .ne 5, 3) := by decide +kernel
theorem dX6_job_32 : decode cX6_job 32 = .ok (.iconst 0, 1) := by decide +kernel
theorem dX6_job_33 : decode cX6_job 33 = .ok (.ireturn, 1) := by decide +kernel
theorem dX6_job_34 : decode cX6_job 34 = .ok (.aload_n 0, 1) := by decide +kernel
theorem dX6_job_35 : decode cX6_job 35 = .ok (.getfield 186, 3) := by decide +kernel
theorem dX6_job_38 : decode cX6_job 38 = .ok (.istore_n 2, 1) := by decide +kernel
theorem dX6_job_39 : decode cX6_job 39 = .ok (.iload_n 2, 1) := by decide +kernel
theorem dX6_job_40 : decode cX6_job 40 = .ok (.ifCond .le 35, 3) := by decide +kernel
theorem dX6_job_43 : decode cX6_job 43 = .ok (.aload_n 0, 1) := by decide +kernel
theorem dX6_job_44 : decode cX6_job 44 = .ok (.getfield 77, 3) := by decide +kernel
theorem dX6_job_47 : decode cX6_job 47 = .ok (.iload_n 2, 1) := by decide +kernel
theorem dX6_job_48 : decode cX6_job 48 = .ok (.iconst 1, 1) := by decide +kernel
theorem dX6_job_49 : decode cX6_job 49 = .ok (.isub, 1) := by decide +kernel
theorem dX6_job_50 : decode cX6_job 50 = .ok (.iaload, 1) := by decide +kernel
theorem dX6_job_51 : decode cX6_job 51 = .ok (.iload_n 1, 1) := by decide +kernel
theorem dX6_job_52 : decode cX6_job 52 = .ok (.if_icmp .le 23, 3) := by decide +kernel
theorem dX6_job_55 : decode cX6_job 55 = .ok (.aload_n 0, 1) := by decide +kernel
theorem dX6_job_56 : decode cX6_job 56 = .ok (.getfield 77, 3) := by decide +kernel
theorem dX6_job_59 : decode cX6_job 59 = .ok (.iload_n 2, 1) := by decide +kernel
theorem dX6_job_60 : decode cX6_job 60 = .ok (.aload_n 0, 1) := by decide +kernel
theorem dX6_job_61 : decode cX6_job 61 = .ok (.getfield 77, 3) := by decide +kernel
theorem dX6_job_64 : decode cX6_job 64 = .ok (.iload_n 2, 1) := by decide +kernel
theorem dX6_job_65 : decode cX6_job 65 = .ok (.iconst 1, 1) := by decide +kernel
theorem dX6_job_66 : decode cX6_job 66 = .ok (.isub, 1) := by decide +kernel
theorem dX6_job_67 : decode cX6_job 67 = .ok (.iaload, 1) := by decide +kernel
theorem dX6_job_68 : decode cX6_job 68 = .ok (.iastore, 1) := by decide +kernel
theorem dX6_job_69 : decode cX6_job 69 = .ok (.iinc 2 (-1), 3) := by decide +kernel
theorem dX6_job_72 : decode cX6_job 72 = .ok (.goto (-33), 3) := by decide +kernel
theorem dX6_job_75 : decode cX6_job 75 = .ok (.aload_n 0, 1) := by decide +kernel
theorem dX6_job_76 : decode cX6_job 76 = .ok (.getfield 77, 3) := by decide +kernel
theorem dX6_job_79 : decode cX6_job 79 = .ok (.iload_n 2, 1) := by decide +kernel
theorem dX6_job_80 : decode cX6_job 80 = .ok (.iload_n 1, 1) := by decide +kernel
theorem dX6_job_81 : decode cX6_job 81 = .ok (.iastore, 1) := by decide +kernel
theorem dX6_job_82 : decode cX6_job 82 = .ok (.aload_n 0, 1) := by decide +kernel
theorem dX6_job_83 : decode cX6_job 83 = .ok (.dup, 1) := by decide +kernel
theorem dX6_job_84 : decode cX6_job 84 = .ok (.getfield 186, 3) := by decide +kernel
theorem dX6_job_87 : decode cX6_job 87 = .ok (.iconst 1, 1) := by decide +kernel
theorem dX6_job_88 : decode cX6_job 88 = .ok (.iadd, 1) := by decide +kernel
theorem dX6_job_89 : decode cX6_job 89 = .ok (.putfield 186, 3) := by decide +kernel
theorem dX6_job_92 : decode cX6_job 92 = .ok (.aload_n 0, 1) := by decide +kernel
theorem dX6_job_93 : decode cX6_job 93 = .ok (.getfield 186, 3) := by decide +kernel
theorem dX6_job_96 : decode cX6_job 96 = .ok (.ireturn, 1) := by decide +kernel
theorem dX6_between_0 : decode cX6_between 0 = .ok (.iload_n 0, 1) := by decide +kernel
theorem dX6_between_1 : decode cX6_between 1 = .ok (.iload_n 1, 1) := by decide +kernel
theorem dX6_between_2 : decode cX6_between 2 = .ok (.if_icmp .ge 9, 3) := by decide +kernel
theorem dX6_between_5 : decode cX6_between 5 = .ok (.iload_n 1, 1) := by decide +kernel
theorem dX6_between_6 : decode cX6_between 6 = .ok (.iload_n 0, 1) := by decide +kernel
theorem dX6_between_7 : decode cX6_between 7 = .ok (.isub, 1) := by decide +kernel
theorem dX6_between_8 : decode cX6_between 8 = .ok (.goto 6, 3) := by decide +kernel
theorem dX6_between_11 : decode cX6_between 11 = .ok (.iload_n 0, 1) := by decide +kernel
theorem dX6_between_12 : decode cX6_between 12 = .ok (.iload_n 1, 1) := by decide +kernel
theorem dX6_between_13 : decode cX6_between 13 = .ok (.isub, 1) := by decide +kernel
theorem dX6_between_14 : decode cX6_between 14 = .ok (.ireturn, 1) := by decide +kernel
set_option maxRecDepth 20000 in
theorem ggX6_isRising_X6_between : GoodIn wsX6_isRising wsX6_between := goodIn_r _ [7] (by decide +kernel) (by decide +kernel)
set_option maxRecDepth 20000 in
theorem gX6_isRising_X6_between : GoodIn wsX6_isRising (va_wsS RX6 189 yX6_between wsX6_between) := goodIn_app (goodIn_of _ (by decide +kernel)) ggX6_isRising_X6_between
theorem dX6_isRising_0 : decode cX6_isRising 0 = .ok (.aload_n 0, 1) := by decide +kernel
theorem dX6_isRising_1 : decode cX6_isRising 1 = .ok (.getfield 86, 3) := by decide +kernel
theorem dX6_isRising_4 : decode cX6_isRising 4 = .ok (.aload_n 0, 1) := by decide +kernel
theorem dX6_isRising_5 : decode cX6_isRising 5 = .ok (.getfield 77, 3) := by decide +kernel
theorem dX6_isRising_8 : decode cX6_isRising 8 = .ok (.iconst 0, 1) := by decide +kernel
theorem dX6_isRising_9 : decode cX6_isRising 9 = .ok (.iaload, 1) := by decide +kernel
theorem dX6_isRising_10 : decode cX6_isRising 10 = .ok (.invokestatic 189, 3) := by decide +kernel
theorem dX6_isRising_13 : decode cX6_isRising 13 = .ok (.aload_n 0, 1) := by decide +kernel
theorem dX6_isRising_14 : decode cX6_isRising 14 = .ok (.getfield 86, 3) := by decide +kernel
theorem dX6_isRising_17 : decode cX6_isRising 17 = .ok (.aload_n 0, 1) := by decide +kernel
theorem dX6_isRising_18 : decode cX6_isRising 18 = .ok (.getfield 77, 3) := by decide +kernel
theorem dX6_isRising_21 : decode cX6_isRising 21 = .ok (.aload_n 0, 1) := by decide +kernel
theorem dX6_isRising_22 : decode cX6_isRising 22 = .ok (.getfield 186, 3) := by decide +kernel
theorem dX6_isRising_25 : decode cX6_isRising 25 = .ok (.iconst 1, 1) := by decide +kernel
theorem dX6_isRising_26 : decode cX6_isRising 26 = .ok (.isub, 1) := by decide +kernel
theorem dX6_isRising_27 : decode cX6_isRising 27 = .ok (.iaload, 1) := by decide +kernel
theorem dX6_isRising_28 : decode cX6_isRising 28 = .ok (.invokestatic 189, 3) := by decide +kernel
theorem dX6_isRising_31 : decode cX6_isRising 31 = .ok (.if_icmp .gt 7, 3) := by decide +kernel
theorem dX6_isRising_34 : decode cX6_isRising 34 = .ok (.iconst 1, 1) := by decide +kernel
theorem dX6_isRising_35 : decode cX6_isRising 35 = .ok (.goto 4, 3) := by decide +kernel
theorem dX6_isRising_38 : decode cX6_isRising 38 = .ok (.iconst 0, 1) := by decide +kernel
theorem dX6_isRising_39 : decode cX6_isRising 39 = .ok (.ireturn, 1) := by decide +kernel
set_option maxRecDepth 20000 in
theorem ggX6_jobAt_X6_isRising : GoodIn wsX6_jobAt wsX6_isRising := goodIn_r _ [7, 8, 1, 2, 9, 10, 6, 11, 12, 13, 14, 15, 16, 17, 18, 19, 20, 21, 22, 23, 24, 25, 26, 27, 28, 29, 30, 31, 32, 33, 34, 35, 36, 37, 38, 39, 40, 41, 42, 43] (by decide +kernel) (by decide +kernel)
set_option maxRecDepth 20000 in
theorem gX6_jobAt_X6_isRising : GoodIn wsX6_jobAt (wsV RX6 192 RX6 yX6_isRising wsX6_isRising) := goodIn_app (goodIn_of _ (by decide +kernel)) ggX6_jobAt_X6_isRising
theorem dX6_jobAt_0 : decode cX6_jobAt 0 = .ok (.aload_n 0, 1) := by decide +kernel
theorem dX6_jobAt_1 : decode cX6_jobAt 1 = .ok (.invokevirtual 192, 3) := by decide +kernel
theorem dX6_jobAt_4 : decode cX6_jobAt 4 = .ok (.ifCond .eq 12, 3) := by decide +kernel
theorem dX6_jobAt_7 : decode cX6_jobAt 7 = .ok (.aload_n 0, 1) := by decide +kernel
theorem dX6_jobAt_8 : decode cX6_jobAt 8 = .ok (.getfield 77, 3) := by decide +kernel
theorem dX6_jobAt_11 : decode cX6_jobAt 11 = .ok (.iload_n 1, 1) := by decide +kernel
theorem dX6_jobAt_12 : decode cX6_jobAt 12 = .ok (.iaload, 1) := by decide +kernel
theorem dX6_jobAt_13 : decode cX6_jobAt 13 = .ok (.goto 16, 3) := by decide +kernel
theorem dX6_jobAt_16 : decode cX6_jobAt 16 = .ok (.aload_n 0, 1) := by decide +kernel
theorem dX6_jobAt_17 : decode cX6_jobAt 17 = .ok (.getfield 77, 3) := by decide +kernel
theorem dX6_jobAt_20 : decode cX6_jobAt 20 = .ok (.aload_n 0, 1) := by decide +kernel
theorem dX6_jobAt_21 : decode cX6_jobAt 21 = .ok (.getfield 186, 3) := by decide +kernel
theorem dX6_jobAt_24 : decode cX6_jobAt 24 = .ok (.iconst 1, 1) := by decide +kernel
theorem dX6_jobAt_25 : decode cX6_jobAt 25 = .ok (.isub, 1) := by decide +kernel
theorem dX6_jobAt_26 : decode cX6_jobAt 26 = .ok (.iload_n 1, 1) := by decide +kernel
theorem dX6_jobAt_27 : decode cX6_jobAt 27 = .ok (.isub, 1) := by decide +kernel
theorem dX6_jobAt_28 : decode cX6_jobAt 28 = .ok (.iaload, 1) := by decide +kernel
theorem dX6_jobAt_29 : decode cX6_jobAt 29 = .ok (.ireturn, 1) := by decide +kernel
set_option maxRecDepth 20000 in
theorem ggX6_planned_X6_goes : GoodIn wsX6_planned wsX6_goes := goodIn_r _ [6, 7, 21, 22, 23, 24, 25, 26, 27, 28, 29, 30, 31, 32, 33, 34, 35, 36, 37, 38, 39, 40, 41, 42, 43, 44, 45, 46, 47, 48, 49, 50, 51, 52] (by decide +kernel) (by decide +kernel)
set_option maxRecDepth 20000 in
theorem gX6_planned_X6_goes : GoodIn wsX6_planned (wsV RX6 103 RX6 yX6_goes wsX6_goes) := goodIn_app (goodIn_of _ (by decide +kernel)) ggX6_planned_X6_goes
set_option maxRecDepth 20000 in
theorem ggX6_planned_X6_jobAt : GoodIn wsX6_planned wsX6_jobAt := goodIn_r _ [11, 12, 1, 13, 14, 15, 5, 16, 17, 18, 19, 20, 21, 22, 23, 24, 25, 26, 27, 28, 29, 30, 31, 32, 33, 34, 35, 36, 37, 38, 39, 40, 41, 42, 43, 44, 45, 46, 47, 48, 49, 50, 51, 52] (by decide +kernel) (by decide +kernel)
set_option maxRecDepth 20000 in
theorem gX6_planned_X6_jobAt : GoodIn wsX6_planned (wsV RX6 196 RX6 yX6_jobAt wsX6_jobAt) := goodIn_app (goodIn_of _ (by decide +kernel)) ggX6_planned_X6_jobAt
theorem dX6_planned_0 : decode cX6_planned 0 = .ok (.aload_n 0, 1) := by decide +kernel
theorem dX6_planned_1 : decode cX6_planned 1 = .ok (.iload_n 1, 1) := by decide +kernel
theorem dX6_planned_2 : decode cX6_planned 2 = .ok (.ifCond .lt 7, 3) := by decide +kernel
theorem dX6_planned_5 : decode cX6_planned 5 = .ok (.iconst 1, 1) := by decide +kernel
theorem dX6_planned_6 : decode cX6_planned 6 = .ok (.goto 4, 3) := by decide +kernel
theorem dX6_planned_9 : decode cX6_planned 9 = .ok (.iconst 0, 1) := by decide +kernel
theorem dX6_planned_10 : decode cX6_planned 10 = .ok (.iconst 1, 1) := by decide +kernel
theorem dX6_planned_11 : decode cX6_planned 11 = .ok (.iconst 1, 1) := by decide +kernel
theorem dX6_planned_12 : decode cX6_planned 12 = .ok (.invokevirtual 103, 3) := by decide +kernel
theorem dX6_planned_15 : decode cX6_planned 15 = .ok (.ifCond .ne 5, 3) := by decide +kernel
theorem dX6_planned_18 : decode cX6_planned 18 = .ok (.iconst 0, 1) := by decide +kernel
theorem dX6_planned_19 : decode cX6_planned 19 = .ok (.ireturn, 1) := by decide +kernel
theorem dX6_planned_20 : decode cX6_planned 20 = .ok (.iload_n 1, 1) := by decide +kernel
theorem dX6_planned_21 : decode cX6_planned 21 = .ok (.aload_n 0, 1) := by decide +kernel
theorem dX6_planned_22 : decode cX6_planned 22 = .ok (.getfield 186, 3) := by decide +kernel
theorem dX6_planned_25 : decode cX6_planned 25 = .ok (.if_icmp .ge 11, 3) := by decide +kernel
theorem dX6_planned_28 : decode cX6_planned 28 = .ok (.aload_n 0, 1) := by decide +kernel
theorem dX6_planned_29 : decode cX6_planned 29 = .ok (.iload_n 1, 1) := by decide +kernel
theorem dX6_planned_30 : decode cX6_planned 30 = .ok (.invokevirtual 196, 3) := by decide +kernel
theorem dX6_planned_33 : decode cX6_planned 33 = .ok (.goto 4, 3) := by decide +kernel
theorem dX6_planned_36 : decode cX6_planned 36 = .ok (.iconst (-1), 1) := by decide +kernel
theorem dX6_planned_37 : decode cX6_planned 37 = .ok (.ireturn, 1) := by decide +kernel
set_option maxRecDepth 20000 in
theorem ggX6_run_X6_jobAt : GoodIn wsX6_run wsX6_jobAt := goodIn_r _ [9, 4, 2, 10, 11, 12, 8, 13, 3, 14, 15, 16, 17, 18, 19, 20, 21, 22, 23, 24, 25, 26, 27, 28, 29, 30, 31, 32, 33, 34, 35, 36, 37, 38, 39, 40, 41, 42, 43, 44, 45, 46, 47, 48] (by decide +kernel) (by decide +kernel)
set_option maxRecDepth 20000 in
theorem gX6_run_X6_jobAt : GoodIn wsX6_run (wsV RX6 196 RX6 yX6_jobAt wsX6_jobAt) := goodIn_app (goodIn_of _ (by decide +kernel)) ggX6_run_X6_jobAt
set_option maxRecDepth 20000 in
theorem ggX6_run_X6_between : GoodIn wsX6_run wsX6_between := goodIn_r _ [16] (by decide +kernel) (by decide +kernel)
set_option maxRecDepth 20000 in
theorem gX6_run_X6_between : GoodIn wsX6_run (va_wsS RX6 189 yX6_between wsX6_between) := goodIn_app (goodIn_of _ (by decide +kernel)) ggX6_run_X6_between
theorem dX6_run_0 : decode cX6_run 0 = .ok (.aload_n 0, 1) := by decide +kernel
theorem dX6_run_1 : decode cX6_run 1 = .ok (.iconst 0, 1) := by decide +kernel
theorem dX6_run_2 : decode cX6_run 2 = .ok (.putfield 90, 3) := by decide +kernel
theorem dX6_run_5 : decode cX6_run 5 = .ok (.aload_n 0, 1) := by decide +kernel
theorem dX6_run_6 : decode cX6_run 6 = .ok (.getfield 186, 3) := by decide +kernel
theorem dX6_run_9 : decode cX6_run 9 = .ok (.ifCond .ne 5, 3) := by decide +kernel
theorem dX6_run_12 : decode cX6_run 12 = .ok (.iconst 0, 1) := by decide +kernel
theorem dX6_run_13 : decode cX6_run 13 = .ok (.ireturn, 1) := by decide +kernel
theorem dX6_run_14 : decode cX6_run 14 = .ok (.aload_n 0, 1) := by decide +kernel
theorem dX6_run_15 : decode cX6_run 15 = .ok (.getfield 86, 3) := by decide +kernel
theorem dX6_run_18 : decode cX6_run 18 = .ok (.aload_n 0, 1) := by decide +kernel
theorem dX6_run_19 : decode cX6_run 19 = .ok (.iconst 0, 1) := by decide +kernel
theorem dX6_run_20 : decode cX6_run 20 = .ok (.invokevirtual 196, 3) := by decide +kernel
theorem dX6_run_23 : decode cX6_run 23 = .ok (.invokestatic 189, 3) := by decide +kernel
theorem dX6_run_26 : decode cX6_run 26 = .ok (.aload_n 0, 1) := by decide +kernel
theorem dX6_run_27 : decode cX6_run 27 = .ok (.getfield 77, 3) := by decide +kernel
theorem dX6_run_30 : decode cX6_run 30 = .ok (.aload_n 0, 1) := by decide +kernel
theorem dX6_run_31 : decode cX6_run 31 = .ok (.getfield 186, 3) := by decide +kernel
theorem dX6_run_34 : decode cX6_run 34 = .ok (.iconst 1, 1) := by decide +kernel
theorem dX6_run_35 : decode cX6_run 35 = .ok (.isub, 1) := by decide +kernel
theorem dX6_run_36 : decode cX6_run 36 = .ok (.iaload, 1) := by decide +kernel
theorem dX6_run_37 : decode cX6_run 37 = .ok (.iadd, 1) := by decide +kernel
theorem dX6_run_38 : decode cX6_run 38 = .ok (.aload_n 0, 1) := by decide +kernel
theorem dX6_run_39 : decode cX6_run 39 = .ok (.getfield 77, 3) := by decide +kernel
theorem dX6_run_42 : decode cX6_run 42 = .ok (.iconst 0, 1) := by decide +kernel
theorem dX6_run_43 : decode cX6_run 43 = .ok (.iaload, 1) := by decide +kernel
theorem dX6_run_44 : decode cX6_run 44 = .ok (.isub, 1) := by decide +kernel
theorem dX6_run_45 : decode cX6_run 45 = .ok (.istore_n 1, 1) := by decide +kernel
theorem dX6_run_46 : decode cX6_run 46 = .ok (.aload_n 0, 1) := by decide +kernel
theorem dX6_run_47 : decode cX6_run 47 = .ok (.aload_n 0, 1) := by decide +kernel
theorem dX6_run_48 : decode cX6_run 48 = .ok (.aload_n 0, 1) := by decide +kernel
theorem dX6_run_49 : decode cX6_run 49 = .ok (.getfield 186, 3) := by decide +kernel
theorem dX6_run_52 : decode cX6_run 52 = .ok (.iconst 1, 1) := by decide +kernel
theorem dX6_run_53 : decode cX6_run 53 = .ok (.isub, 1) := by decide +kernel
theorem dX6_run_54 : decode cX6_run 54 = .ok (.invokevirtual 196, 3) := by decide +kernel
theorem dX6_run_57 : decode cX6_run 57 = .ok (.putfield 86, 3) := by decide +kernel
theorem dX6_run_60 : decode cX6_run 60 = .ok (.aload_n 0, 1) := by decide +kernel
theorem dX6_run_61 : decode cX6_run 61 = .ok (.iconst 0, 1) := by decide +kernel
theorem dX6_run_62 : decode cX6_run 62 = .ok (.putfield 186, 3) := by decide +kernel
theorem dX6_run_65 : decode cX6_run 65 = .ok (.iload_n 1, 1) := by decide +kernel
theorem dX6_run_66 : decode cX6_run 66 = .ok (.ireturn, 1) := by decide +kernel
theorem dJ9_abs_0f7a4_0 : decode cJ9_abs_0f7a4 0 = .ok (.iload_n 0, 1) := by decide +kernel
theorem dJ9_abs_0f7a4_1 : decode cJ9_abs_0f7a4 1 = .ok (.ifCond .ge 8, 3) := by decide +kernel
theorem dJ9_abs_0f7a4_4 : decode cJ9_abs_0f7a4 4 = .ok (.iload_n 0, 1) := by decide +kernel
theorem dJ9_abs_0f7a4_5 : decode cJ9_abs_0f7a4 5 = .ok (.ineg, 1) := by decide +kernel
theorem dJ9_abs_0f7a4_6 : decode cJ9_abs_0f7a4 6 = .ok (.goto 4, 3) := by decide +kernel
theorem dJ9_abs_0f7a4_9 : decode cJ9_abs_0f7a4 9 = .ok (.iload_n 0, 1) := by decide +kernel
theorem dJ9_abs_0f7a4_10 : decode cJ9_abs_0f7a4 10 = .ok (.ireturn, 1) := by decide +kernel
theorem dJ9_max_7cf53_0 : decode cJ9_max_7cf53 0 = .ok (.iload_n 0, 1) := by decide +kernel
theorem dJ9_max_7cf53_1 : decode cJ9_max_7cf53 1 = .ok (.iload_n 1, 1) := by decide +kernel
theorem dJ9_max_7cf53_2 : decode cJ9_max_7cf53 2 = .ok (.if_icmp .lt 7, 3) := by decide +kernel
theorem dJ9_max_7cf53_5 : decode cJ9_max_7cf53 5 = .ok (.iload_n 0, 1) := by decide +kernel
theorem dJ9_max_7cf53_6 : decode cJ9_max_7cf53 6 = .ok (.goto 4, 3) := by decide +kernel
theorem dJ9_max_7cf53_9 : decode cJ9_max_7cf53 9 = .ok (.iload_n 1, 1) := by decide +kernel
theorem dJ9_max_7cf53_10 : decode cJ9_max_7cf53 10 = .ok (.ireturn, 1) := by decide +kernel
theorem dJ9_min_7cf53_0 : decode cJ9_min_7cf53 0 = .ok (.iload_n 0, 1) := by decide +kernel
theorem dJ9_min_7cf53_1 : decode cJ9_min_7cf53 1 = .ok (.iload_n 1, 1) := by decide +kernel
theorem dJ9_min_7cf53_2 : decode cJ9_min_7cf53 2 = .ok (.if_icmp .gt 7, 3) := by decide +kernel
theorem dJ9_min_7cf53_5 : decode cJ9_min_7cf53 5 = .ok (.iload_n 0, 1) := by decide +kernel
theorem dJ9_min_7cf53_6 : decode cJ9_min_7cf53 6 = .ok (.goto 4, 3) := by decide +kernel
theorem dJ9_min_7cf53_9 : decode cJ9_min_7cf53 9 = .ok (.iload_n 1, 1) := by decide +kernel
theorem dJ9_min_7cf53_10 : decode cJ9_min_7cf53 10 = .ok (.ireturn, 1) := by decide +kernel
theorem dJxa1e45_init_da8c8_0 : decode cJxa1e45_init_da8c8 0 = .ok (.aload_n 0, 1) := by decide +kernel
theorem dJxa1e45_init_da8c8_1 : decode cJxa1e45_init_da8c8 1 = .ok (.invokespecial 1, 3) := by decide +kernel
theorem dJxa1e45_init_da8c8_4 : decode cJxa1e45_init_da8c8 4 = .ok (.return_, 1) := by decide +kernel
set_option maxRecDepth 20000 in
theorem ggJxc12de_init_da8c8_Jxa1e45_init_da8c8 : GoodIn wsJxc12de_init_da8c8 wsJxa1e45_init_da8c8 := goodIn_r _ [5, 6, 7, 8] (by decide +kernel) (by decide +kernel)
set_option maxRecDepth 20000 in
theorem gJxc12de_init_da8c8_Jxa1e45_init_da8c8 : GoodIn wsJxc12de_init_da8c8 (wsJxa1e45_init_da8c8) := ggJxc12de_init_da8c8_Jxa1e45_init_da8c8
theorem dJxc12de_init_da8c8_0 : decode cJxc12de_init_da8c8 0 = .ok (.aload_n 0, 1) := by decide +kernel
theorem dJxc12de_init_da8c8_1 : decode cJxc12de_init_da8c8 1 = .ok (.invokespecial 1, 3) := by decide +kernel
theorem dJxc12de_init_da8c8_4 : decode cJxc12de_init_da8c8 4 = .ok (.aload_n 0, 1) := by decide +kernel
theorem dJxc12de_init_da8c8_5 : decode cJxc12de_init_da8c8 5 = .ok (.iconst 0, 1) := by decide +kernel
theorem dJxc12de_init_da8c8_6 : decode cJxc12de_init_da8c8 6 = .ok (.putfield 7, 3) := by decide +kernel
theorem dJxc12de_init_da8c8_9 : decode cJxc12de_init_da8c8 9 = .ok (.return_, 1) := by decide +kernel
set_option maxRecDepth 20000 in
theorem ggJx4a65c_init_da8c8_Jxc12de_init_da8c8 : GoodIn wsJx4a65c_init_da8c8 wsJxc12de_init_da8c8 := goodIn_r _ [6, 7, 8, 9, 10, 11, 12, 13, 14, 15, 16, 17] (by decide +kernel) (by decide +kernel)
set_option maxRecDepth 20000 in
theorem gJx4a65c_init_da8c8_Jxc12de_init_da8c8 : GoodIn wsJx4a65c_init_da8c8 (wsJxc12de_init_da8c8) := ggJx4a65c_init_da8c8_Jxc12de_init_da8c8
theorem dJx4a65c_init_da8c8_0 : decode cJx4a65c_init_da8c8 0 = .ok (.aload_n 0, 1) := by decide +kernel
theorem dJx4a65c_init_da8c8_1 : decode cJx4a65c_init_da8c8 1 = .ok (.invokespecial 1, 3) := by decide +kernel
theorem dJx4a65c_init_da8c8_4 : decode cJx4a65c_init_da8c8 4 = .ok (.aload_n 0, 1) := by decide +kernel
theorem dJx4a65c_init_da8c8_5 : decode cJx4a65c_init_da8c8 5 = .ok (.getstatic 39, 3) := by decide +kernel
theorem dJx4a65c_init_da8c8_8 : decode cJx4a65c_init_da8c8 8 = .ok (.putfield 9, 3) := by decide +kernel
theorem dJx4a65c_init_da8c8_11 : decode cJx4a65c_init_da8c8 11 = .ok (.return_, 1) := by decide +kernel
set_option maxRecDepth 20000 in
theorem ggJx4a65c_grow_92f84_J8_newLength_cabcc : GoodIn wsJx4a65c_grow_92f84 wsJ8_newLength_cabcc := goodIn_r _ [11, 12, 4, 5, 6, 13, 14, 15, 10, 16] (by decide +kernel) (by decide +kernel)
set_option maxRecDepth 20000 in
theorem gJx4a65c_grow_92f84_J8_newLength_cabcc : GoodIn wsJx4a65c_grow_92f84 (va_wsS RJx4a65c 73 yJ8_newLength_cabcc wsJ8_newLength_cabcc) := goodIn_app (goodIn_of _ (by decide +kernel)) ggJx4a65c_grow_92f84_J8_newLength_cabcc
set_option maxRecDepth 20000 in
theorem ggJx4a65c_grow_92f84_J7_copyOf_1904c : GoodIn wsJx4a65c_grow_92f84 wsJ7_copyOf_1904c := goodIn_r _ [20, 21, 22, 23, 24, 25, 26, 19, 27, 28, 29, 30, 31, 5, 32, 33, 34, 35, 36] (by decide +kernel) (by decide +kernel)
set_option maxRecDepth 20000 in
theorem gJx4a65c_grow_92f84_J7_copyOf_1904c : GoodIn wsJx4a65c_grow_92f84 (va_wsS RJx4a65c 66 yJ7_copyOf_1904c wsJ7_copyOf_1904c) := goodIn_app (goodIn_of _ (by decide +kernel)) ggJx4a65c_grow_92f84_J7_copyOf_1904c
theorem dJx4a65c_grow_92f84_0 : decode cJx4a65c_grow_92f84 0 = .ok (.aload_n 0, 1) := by decide +kernel
theorem dJx4a65c_grow_92f84_1 : decode cJx4a65c_grow_92f84 1 = .ok (.getfield 9, 3) := by decide +kernel
theorem dJx4a65c_grow_92f84_4 : decode cJx4a65c_grow_92f84 4 = .ok (.arraylength, 1) := by decide +kernel
theorem dJx4a65c_grow_92f84_5 : decode cJx4a65c_grow_92f84 5 = .ok (.istore_n 2, 1) := by decide +kernel
theorem dJx4a65c_grow_92f84_6 : decode cJx4a65c_grow_92f84 6 = .ok (.iload_n 2, 1) := by decide +kernel
theorem dJx4a65c_grow_92f84_7 : decode cJx4a65c_grow_92f84 7 = .ok (.ifCond .gt 13, 3) := by decide +kernel
theorem dJx4a65c_grow_92f84_10 : decode cJx4a65c_grow_92f84 10 = .ok (.aload_n 0, 1) := by decide +kernel
theorem dJx4a65c_grow_92f84_11 : decode cJx4a65c_grow_92f84 11 = .ok (.getfield 9, 3) := by decide +kernel
theorem dJx4a65c_grow_92f84_14 : decode cJx4a65c_grow_92f84 14 = .ok (.getstatic 39, 3) := by decide +kernel
theorem dJx4a65c_grow_92f84_17 : decode cJx4a65c_grow_92f84 17 = .ok (.if_acmp .eq 28, 3) := by decide +kernel
theorem dJx4a65c_grow_92f84_20 : decode cJx4a65c_grow_92f84 20 = .ok (.iload_n 2, 1) := by decide +kernel
theorem dJx4a65c_grow_92f84_21 : decode cJx4a65c_grow_92f84 21 = .ok (.iload_n 1, 1) := by decide +kernel
theorem dJx4a65c_grow_92f84_22 : decode cJx4a65c_grow_92f84 22 = .ok (.iload_n 2, 1) := by decide +kernel
theorem dJx4a65c_grow_92f84_23 : decode cJx4a65c_grow_92f84 23 = .ok (.isub, 1) := by decide +kernel
theorem dJx4a65c_grow_92f84_24 : decode cJx4a65c_grow_92f84 24 = .ok (.iload_n 2, 1) := by decide +kernel
theorem dJx4a65c_grow_92f84_25 : decode cJx4a65c_grow_92f84 25 = .ok (.iconst 1, 1) := by decide +kernel
theorem dJx4a65c_grow_92f84_26 : decode cJx4a65c_grow_92f84 26 = .ok (.ishr, 1) := by decide +kernel
theorem dJx4a65c_grow_92f84_27 : decode cJx4a65c_grow_92f84 27 = .ok (.invokestatic 73, 3) := by decide +kernel
theorem dJx4a65c_grow_92f84_30 : decode cJx4a65c_grow_92f84 30 = .ok (.istore_n 3, 1) := by decide +kernel
theorem dJx4a65c_grow_92f84_31 : decode cJx4a65c_grow_92f84 31 = .ok (.aload_n 0, 1) := by decide +kernel
theorem dJx4a65c_grow_92f84_32 : decode cJx4a65c_grow_92f84 32 = .ok (.aload_n 0, 1) := by decide +kernel
theorem dJx4a65c_grow_92f84_33 : decode cJx4a65c_grow_92f84 33 = .ok (.getfield 9, 3) := by decide +kernel
theorem dJx4a65c_grow_92f84_36 : decode cJx4a65c_grow_92f84 36 = .ok (.iload_n 3, 1) := by decide +kernel
theorem dJx4a65c_grow_92f84_37 : decode cJx4a65c_grow_92f84 37 = .ok (.invokestatic 66, 3) := by decide +kernel
theorem dJx4a65c_grow_92f84_40 : decode cJx4a65c_grow_92f84 40 = .ok (.dup_x1, 1) := by decide +kernel
theorem dJx4a65c_grow_92f84_41 : decode cJx4a65c_grow_92f84 41 = .ok (.putfield 9, 3) := by decide +kernel
theorem dJx4a65c_grow_92f84_44 : decode cJx4a65c_grow_92f84 44 = .ok (.areturn, 1) := by decide +kernel
theorem dJx4a65c_grow_92f84_45 : decode cJx4a65c_grow_92f84 45 = .ok (.aload_n 0, 1) := by decide +kernel
theorem dJx4a65c_grow_92f84_46 : decode cJx4a65c_grow_92f84 46 = .ok (.bipush 10, 2) := by decide +kernel
theorem dJx4a65c_grow_92f84_48 : decode cJx4a65c_grow_92f84 48 = .ok (.iload_n 1, 1) := by decide +kernel
theorem dJx4a65c_grow_92f84_49 : decode cJx4a65c_grow_92f84 49 = .ok (.invokestatic 79, 3) := by decide +kernel
theorem dJx4a65c_grow_92f84_52 : decode cJx4a65c_grow_92f84 52 = .ok (.anewarray 7, 3) := by decide +kernel
theorem dJx4a65c_grow_92f84_55 : decode cJx4a65c_grow_92f84 55 = .ok (.dup_x1, 1) := by decide +kernel
theorem dJx4a65c_grow_92f84_56 : decode cJx4a65c_grow_92f84 56 = .ok (.putfield 9, 3) := by decide +kernel
theorem dJx4a65c_grow_92f84_59 : decode cJx4a65c_grow_92f84 59 = .ok (.areturn, 1) := by decide +kernel
set_option maxRecDepth 20000 in
theorem ggJx4a65c_grow_d5877_Jx4a65c_grow_92f84 : GoodIn wsJx4a65c_grow_d5877 wsJx4a65c_grow_92f84 := goodIn_r _ [6, 7, 8, 9, 10, 11, 12, 13, 14, 15, 16, 17, 18, 19, 20, 21, 22, 23, 24, 25, 26, 27, 28, 29, 30, 31, 32, 33, 34, 35, 36, 37, 38, 39, 40, 41, 42, 43, 44, 45] (by decide +kernel) (by decide +kernel)
set_option maxRecDepth 20000 in
theorem gJx4a65c_grow_d5877_Jx4a65c_grow_92f84 : GoodIn wsJx4a65c_grow_d5877 (wsV RJx4a65c 69 RJx4a65c yJx4a65c_grow_92f84 wsJx4a65c_grow_92f84) := goodIn_app (goodIn_of _ (by decide +kernel)) ggJx4a65c_grow_d5877_Jx4a65c_grow_92f84
theorem dJx4a65c_grow_d5877_0 : decode cJx4a65c_grow_d5877 0 = .ok (.aload_n 0, 1) := by decide +kernel
theorem dJx4a65c_grow_d5877_1 : decode cJx4a65c_grow_d5877 1 = .ok (.aload_n 0, 1) := by decide +kernel
theorem dJx4a65c_grow_d5877_2 : decode cJx4a65c_grow_d5877 2 = .ok (.getfield 48, 3) := by decide +kernel
theorem dJx4a65c_grow_d5877_5 : decode cJx4a65c_grow_d5877 5 = .ok (.iconst 1, 1) := by decide +kernel
theorem dJx4a65c_grow_d5877_6 : decode cJx4a65c_grow_d5877 6 = .ok (.iadd, 1) := by decide +kernel
theorem dJx4a65c_grow_d5877_7 : decode cJx4a65c_grow_d5877 7 = .ok (.invokevirtual 69, 3) := by decide +kernel
theorem dJx4a65c_grow_d5877_10 : decode cJx4a65c_grow_d5877 10 = .ok (.areturn, 1) := by decide +kernel
theorem dJx4a65c_size_8abf5_0 : decode cJx4a65c_size_8abf5 0 = .ok (.aload_n 0, 1) := by decide +kernel
theorem dJx4a65c_size_8abf5_1 : decode cJx4a65c_size_8abf5 1 = .ok (.getfield 48, 3) := by decide +kernel
theorem dJx4a65c_size_8abf5_4 : decode cJx4a65c_size_8abf5 4 = .ok (.ireturn, 1) := by decide +kernel
theorem dJx4a65c_elementData_915e3_0 : decode cJx4a65c_elementData_915e3 0 = .ok (.aload_n 0, 1) := by decide +kernel
theorem dJx4a65c_elementData_915e3_1 : decode cJx4a65c_elementData_915e3 1 = .ok (.getfield 9, 3) := by decide +kernel
theorem dJx4a65c_elementData_915e3_4 : decode cJx4a65c_elementData_915e3 4 = .ok (.iload_n 1, 1) := by decide +kernel
theorem dJx4a65c_elementData_915e3_5 : decode cJx4a65c_elementData_915e3 5 = .ok (.aaload, 1) := by decide +kernel
theorem dJx4a65c_elementData_915e3_6 : decode cJx4a65c_elementData_915e3 6 = .ok (.areturn, 1) := by decide +kernel
set_option maxRecDepth 20000 in
theorem ggJx4a65c_get_915e3_J15_checkIndex_7cf53 : GoodIn wsJx4a65c_get_915e3 wsJ15_checkIndex_7cf53 := goodIn_r _ [5, 6, 7, 8, 9] (by decide +kernel) (by decide +kernel)
set_option maxRecDepth 20000 in
theorem gJx4a65c_get_915e3_J15_checkIndex_7cf53 : GoodIn wsJx4a65c_get_915e3 (va_wsS RJx4a65c 118 yJ15_checkIndex_7cf53 wsJ15_checkIndex_7cf53) := goodIn_app (goodIn_of _ (by decide +kernel)) ggJx4a65c_get_915e3_J15_checkIndex_7cf53
set_option maxRecDepth 20000 in
theorem ggJx4a65c_get_915e3_Jx4a65c_elementData_915e3 : GoodIn wsJx4a65c_get_915e3 wsJx4a65c_elementData_915e3 := goodIn_r _ [14, 15, 16, 17, 18] (by decide +kernel) (by decide +kernel)
set_option maxRecDepth 20000 in
theorem gJx4a65c_get_915e3_Jx4a65c_elementData_915e3 : GoodIn wsJx4a65c_get_915e3 (wsV RJx4a65c 123 RJx4a65c yJx4a65c_elementData_915e3 wsJx4a65c_elementData_915e3) := goodIn_app (goodIn_of _ (by decide +kernel)) ggJx4a65c_get_915e3_Jx4a65c_elementData_915e3
theorem dJx4a65c_get_915e3_0 : decode cJx4a65c_get_915e3 0 = .ok (.iload_n 1, 1) := by decide +kernel
theorem dJx4a65c_get_915e3_1 : decode cJx4a65c_get_915e3 1 = .ok (.aload_n 0, 1) := by decide +kernel
theorem dJx4a65c_get_915e3_2 : decode cJx4a65c_get_915e3 2 = .ok (.getfield 48, 3) := by decide +kernel
theorem dJx4a65c_get_915e3_5 : decode cJx4a65c_get_915e3 5 = .ok (.invokestatic 118, 3) := by decide +kernel
theorem dJx4a65c_get_915e3_8 : decode cJx4a65c_get_915e3 8 = .ok (.pop, 1) := by decide +kernel
theorem dJx4a65c_get_915e3_9 : decode cJx4a65c_get_915e3 9 = .ok (.aload_n 0, 1) := by decide +kernel
theorem dJx4a65c_get_915e3_10 : decode cJx4a65c_get_915e3 10 = .ok (.iload_n 1, 1) := by decide +kernel
theorem dJx4a65c_get_915e3_11 : decode cJx4a65c_get_915e3 11 = .ok (.invokevirtual 123, 3) := by decide +kernel
theorem dJx4a65c_get_915e3_14 : decode cJx4a65c_get_915e3 14 = .ok (.areturn, 1) := by decide +kernel
set_option maxRecDepth 20000 in
theorem ggJx4a65c_add_72be8_Jx4a65c_grow_d5877 : GoodIn wsJx4a65c_add_72be8 wsJx4a65c_grow_d5877 := goodIn_r _ [6, 1, 7, 8, 9, 5, 10, 11, 12, 13, 14, 15, 16, 17, 18, 19, 20, 21, 22, 23, 24, 25, 26, 27, 28, 29, 30, 31, 32, 33, 34, 35, 36, 37, 38, 39, 40, 41, 42, 43, 44, 45, 46, 47, 48, 49] (by decide +kernel) (by decide +kernel)
set_option maxRecDepth 20000 in
theorem gJx4a65c_add_72be8_Jx4a65c_grow_d5877 : GoodIn wsJx4a65c_add_72be8 (wsV RJx4a65c 129 RJx4a65c yJx4a65c_grow_d5877 wsJx4a65c_grow_d5877) := goodIn_app (goodIn_of _ (by decide +kernel)) ggJx4a65c_add_72be8_Jx4a65c_grow_d5877
theorem dJx4a65c_add_72be8_0 : decode cJx4a65c_add_72be8 0 = .ok (.iload_n 3, 1) := by decide +kernel
theorem dJx4a65c_add_72be8_1 : decode cJx4a65c_add_72be8 1 = .ok (.aload_n 2, 1) := by decide +kernel
theorem dJx4a65c_add_72be8_2 : decode cJx4a65c_add_72be8 2 = .ok (.arraylength, 1) := by decide +kernel
theorem dJx4a65c_add_72be8_3 : decode cJx4a65c_add_72be8 3 = .ok (.if_icmp .ne 8, 3) := by decide +kernel
theorem dJx4a65c_add_72be8_6 : decode cJx4a65c_add_72be8 6 = .ok (.aload_n 0, 1) := by decide +kernel
theorem dJx4a65c_add_72be8_7 : decode cJx4a65c_add_72be8 7 = .ok (.invokevirtual 129, 3) := by decide +kernel
theorem dJx4a65c_add_72be8_10 : decode cJx4a65c_add_72be8 10 = .ok (.astore_n 2, 1) := by decide +kernel
theorem dJx4a65c_add_72be8_11 : decode cJx4a65c_add_72be8 11 = .ok (.aload_n 2, 1) := by decide +kernel
theorem dJx4a65c_add_72be8_12 : decode cJx4a65c_add_72be8 12 = .ok (.iload_n 3, 1) := by decide +kernel
theorem dJx4a65c_add_72be8_13 : decode cJx4a65c_add_72be8 13 = .ok (.aload_n 1, 1) := by decide +kernel
theorem dJx4a65c_add_72be8_14 : decode cJx4a65c_add_72be8 14 = .ok (.aastore, 1) := by decide +kernel
theorem dJx4a65c_add_72be8_15 : decode cJx4a65c_add_72be8 15 = .ok (.aload_n 0, 1) := by decide +kernel
theorem dJx4a65c_add_72be8_16 : decode cJx4a65c_add_72be8 16 = .ok (.iload_n 3, 1) := by decide +kernel
theorem dJx4a65c_add_72be8_17 : decode cJx4a65c_add_72be8 17 = .ok (.iconst 1, 1) := by decide +kernel
theorem dJx4a65c_add_72be8_18 : decode cJx4a65c_add_72be8 18 = .ok (.iadd, 1) := by decide +kernel
theorem dJx4a65c_add_72be8_19 : decode cJx4a65c_add_72be8 19 = .ok (.putfield 48, 3) := by decide +kernel
theorem dJx4a65c_add_72be8_22 : decode cJx4a65c_add_72be8 22 = .ok (.return_, 1) := by decide +kernel
set_option maxRecDepth 20000 in
theorem ggJx4a65c_add_9ea2d_Jx4a65c_add_72be8 : GoodIn wsJx4a65c_add_9ea2d wsJx4a65c_add_72be8 := goodIn_r _ [9, 4, 10, 11, 12, 8, 13, 14, 15, 16, 17, 3, 18, 19, 20, 21, 22, 23, 24, 25, 26, 27, 28, 29, 30, 31, 32, 33, 34, 35, 36, 37, 38, 39, 40, 41, 42, 43, 44, 45, 46, 47, 48, 49, 50, 51, 52, 53, 54, 55] (by decide +kernel) (by decide +kernel)
set_option maxRecDepth 20000 in
theorem gJx4a65c_add_9ea2d_Jx4a65c_add_72be8 : GoodIn wsJx4a65c_add_9ea2d (wsV RJx4a65c 131 RJx4a65c yJx4a65c_add_72be8 wsJx4a65c_add_72be8) := goodIn_app (goodIn_of _ (by decide +kernel)) ggJx4a65c_add_9ea2d_Jx4a65c_add_72be8
theorem dJx4a65c_add_9ea2d_0 : decode cJx4a65c_add_9ea2d 0 = .ok (.aload_n 0, 1) := by decide +kernel
theorem dJx4a65c_add_9ea2d_1 : decode cJx4a65c_add_9ea2d 1 = .ok (.dup, 1) := by decide +kernel
theorem dJx4a65c_add_9ea2d_2 : decode cJx4a65c_add_9ea2d 2 = .ok (.getfield 63, 3) := by decide +kernel
theorem dJx4a65c_add_9ea2d_5 : decode cJx4a65c_add_9ea2d 5 = .ok (.iconst 1, 1) := by decide +kernel
theorem dJx4a65c_add_9ea2d_6 : decode cJx4a65c_add_9ea2d 6 = .ok (.iadd, 1) := by decide +kernel
theorem dJx4a65c_add_9ea2d_7 : decode cJx4a65c_add_9ea2d 7 = .ok (.putfield 63, 3) := by decide +kernel
theorem dJx4a65c_add_9ea2d_10 : decode cJx4a65c_add_9ea2d 10 = .ok (.aload_n 0, 1) := by decide +kernel
theorem dJx4a65c_add_9ea2d_11 : decode cJx4a65c_add_9ea2d 11 = .ok (.aload_n 1, 1) := by decide +kernel
theorem dJx4a65c_add_9ea2d_12 : decode cJx4a65c_add_9ea2d 12 = .ok (.aload_n 0, 1) := by decide +kernel
theorem dJx4a65c_add_9ea2d_13 : decode cJx4a65c_add_9ea2d 13 = .ok (.getfield 9, 3) := by decide +kernel
theorem dJx4a65c_add_9ea2d_16 : decode cJx4a65c_add_9ea2d 16 = .ok (.aload_n 0, 1) := by decide +kernel
theorem dJx4a65c_add_9ea2d_17 : decode cJx4a65c_add_9ea2d 17 = .ok (.getfield 48, 3) := by decide +kernel
theorem dJx4a65c_add_9ea2d_20 : decode cJx4a65c_add_9ea2d 20 = .ok (.invokevirtual 131, 3) := by decide +kernel
theorem dJx4a65c_add_9ea2d_23 : decode cJx4a65c_add_9ea2d 23 = .ok (.iconst 1, 1) := by decide +kernel
theorem dJx4a65c_add_9ea2d_24 : decode cJx4a65c_add_9ea2d 24 = .ok (.ireturn, 1) := by decide +kernel
theorem dJ7_fill_53178_0 : decode cJ7_fill_53178 0 = .ok (.iconst 0, 1) := by decide +kernel
theorem dJ7_fill_53178_1 : decode cJ7_fill_53178 1 = .ok (.istore_n 2, 1) := by decide +kernel
theorem dJ7_fill_53178_2 : decode cJ7_fill_53178 2 = .ok (.aload_n 0, 1) := by decide +kernel
theorem dJ7_fill_53178_3 : decode cJ7_fill_53178 3 = .ok (.arraylength, 1) := by decide +kernel
theorem dJ7_fill_53178_4 : decode cJ7_fill_53178 4 = .ok (.istore_n 3, 1) := by decide +kernel
theorem dJ7_fill_53178_5 : decode cJ7_fill_53178 5 = .ok (.iload_n 2, 1) := by decide +kernel
theorem dJ7_fill_53178_6 : decode cJ7_fill_53178 6 = .ok (.iload_n 3, 1) := by decide +kernel
theorem dJ7_fill_53178_7 : decode cJ7_fill_53178 7 = .ok (.if_icmp .ge 13, 3) := by decide +kernel
theorem dJ7_fill_53178_10 : decode cJ7_fill_53178 10 = .ok (.aload_n 0, 1) := by decide +kernel
theorem dJ7_fill_53178_11 : decode cJ7_fill_53178 11 = .ok (.iload_n 2, 1) := by decide +kernel
theorem dJ7_fill_53178_12 : decode cJ7_fill_53178 12 = .ok (.iload_n 1, 1) := by decide +kernel
theorem dJ7_fill_53178_13 : decode cJ7_fill_53178 13 = .ok (.iastore, 1) := by decide +kernel
theorem dJ7_fill_53178_14 : decode cJ7_fill_53178 14 = .ok (.iinc 2 1, 3) := by decide +kernel
theorem dJ7_fill_53178_17 : decode cJ7_fill_53178 17 = .ok (.goto (-12), 3) := by decide +kernel
theorem dJ7_fill_53178_20 : decode cJ7_fill_53178 20 = .ok (.return_, 1) := by decide +kernel
set_option maxRecDepth 20000 in
theorem ggJ7_copyOf_1904c_J7_copyOf_6403c : GoodIn wsJ7_copyOf_1904c wsJ7_copyOf_6403c := goodIn_r _ [8, 9, 10, 11, 12, 13, 14, 15, 16, 17, 18] (by decide +kernel) (by decide +kernel)
set_option maxRecDepth 20000 in
theorem gJ7_copyOf_1904c_J7_copyOf_6403c : GoodIn wsJ7_copyOf_1904c (va_wsS RJ7 300 yJ7_copyOf_6403c wsJ7_copyOf_6403c) := goodIn_app (goodIn_of _ (by decide +kernel)) ggJ7_copyOf_1904c_J7_copyOf_6403c
theorem dJ7_copyOf_1904c_0 : decode cJ7_copyOf_1904c 0 = .ok (.aload_n 0, 1) := by decide +kernel
theorem dJ7_copyOf_1904c_1 : decode cJ7_copyOf_1904c 1 = .ok (.iload_n 1, 1) := by decide +kernel
theorem dJ7_copyOf_1904c_2 : decode cJ7_copyOf_1904c 2 = .ok (.aload_n 0, 1) := by decide +kernel
theorem dJ7_copyOf_1904c_3 : decode cJ7_copyOf_1904c 3 = .ok (.invokevirtual 86, 3) := by decide +kernel
theorem dJ7_copyOf_1904c_6 : decode cJ7_copyOf_1904c 6 = .ok (.invokestatic 300, 3) := by decide +kernel
theorem dJ7_copyOf_1904c_9 : decode cJ7_copyOf_1904c 9 = .ok (.areturn, 1) := by decide +kernel
theorem dJ7_copyOf_6403c_0 : decode cJ7_copyOf_6403c 0 = .ok (.aload_n 2, 1) := by decide +kernel
theorem dJ7_copyOf_6403c_1 : decode cJ7_copyOf_6403c 1 = .ok (.ldc 110, 2) := by decide +kernel
theorem dJ7_copyOf_6403c_3 : decode cJ7_copyOf_6403c 3 = .ok (.if_acmp .ne 10, 3) := by decide +kernel
theorem dJ7_copyOf_6403c_6 : decode cJ7_copyOf_6403c 6 = .ok (.iload_n 1, 1) := by decide +kernel
theorem dJ7_copyOf_6403c_7 : decode cJ7_copyOf_6403c 7 = .ok (.anewarray 2, 3) := by decide +kernel
theorem dJ7_copyOf_6403c_10 : decode cJ7_copyOf_6403c 10 = .ok (.goto 14, 3) := by decide +kernel
theorem dJ7_copyOf_6403c_13 : decode cJ7_copyOf_6403c 13 = .ok (.aload_n 2, 1) := by decide +kernel
theorem dJ7_copyOf_6403c_14 : decode cJ7_copyOf_6403c 14 = .ok (.invokevirtual 90, 3) := by decide +kernel
theorem dJ7_copyOf_6403c_17 : decode cJ7_copyOf_6403c 17 = .ok (.iload_n 1, 1) := by decide +kernel
theorem dJ7_copyOf_6403c_18 : decode cJ7_copyOf_6403c 18 = .ok (.invokestatic 95, 3) := by decide +kernel
theorem dJ7_copyOf_6403c_21 : decode cJ7_copyOf_6403c 21 = .ok (.checkcast 110, 3) := by decide +kernel
theorem dJ7_copyOf_6403c_24 : decode cJ7_copyOf_6403c 24 = .ok (.astore_n 3, 1) := by decide +kernel
theorem dJ7_copyOf_6403c_25 : decode cJ7_copyOf_6403c 25 = .ok (.aload_n 0, 1) := by decide +kernel
theorem dJ7_copyOf_6403c_26 : decode cJ7_copyOf_6403c 26 = .ok (.iconst 0, 1) := by decide +kernel
theorem dJ7_copyOf_6403c_27 : decode cJ7_copyOf_6403c 27 = .ok (.aload_n 3, 1) := by decide +kernel
theorem dJ7_copyOf_6403c_28 : decode cJ7_copyOf_6403c 28 = .ok (.iconst 0, 1) := by decide +kernel
theorem dJ7_copyOf_6403c_29 : decode cJ7_copyOf_6403c 29 = .ok (.aload_n 0, 1) := by decide +kernel
theorem dJ7_copyOf_6403c_30 : decode cJ7_copyOf_6403c 30 = .ok (.arraylength, 1) := by decide +kernel
theorem dJ7_copyOf_6403c_31 : decode cJ7_copyOf_6403c 31 = .ok (.iload_n 1, 1) := by decide +kernel
theorem dJ7_copyOf_6403c_32 : decode cJ7_copyOf_6403c 32 = .ok (.invokestatic 304, 3) := by decide +kernel
theorem dJ7_copyOf_6403c_35 : decode cJ7_copyOf_6403c 35 = .ok (.invokestatic 150, 3) := by decide +kernel
theorem dJ7_copyOf_6403c_38 : decode cJ7_copyOf_6403c 38 = .ok (.aload_n 3, 1) := by decide +kernel
theorem dJ7_copyOf_6403c_39 : decode cJ7_copyOf_6403c 39 = .ok (.areturn, 1) := by decide +kernel
set_option maxRecDepth 20000 in
theorem ggJ15_checkIndex_7cf53_J3_checkIndex_8e157 : GoodIn wsJ15_checkIndex_7cf53 wsJ3_checkIndex_8e157 := goodIn_r _ [4] (by decide +kernel) (by decide +kernel)
set_option maxRecDepth 20000 in
theorem gJ15_checkIndex_7cf53_J3_checkIndex_8e157 : GoodIn wsJ15_checkIndex_7cf53 (va_wsS RJ15 105 yJ3_checkIndex_8e157 wsJ3_checkIndex_8e157) := goodIn_app (goodIn_of _ (by decide +kernel)) ggJ15_checkIndex_7cf53_J3_checkIndex_8e157
theorem dJ15_checkIndex_7cf53_0 : decode cJ15_checkIndex_7cf53 0 = .ok (.iload_n 0, 1) := by decide +kernel
theorem dJ15_checkIndex_7cf53_1 : decode cJ15_checkIndex_7cf53 1 = .ok (.iload_n 1, 1) := by decide +kernel
theorem dJ15_checkIndex_7cf53_2 : decode cJ15_checkIndex_7cf53 2 = .ok (.aconst_null, 1) := by decide +kernel
theorem dJ15_checkIndex_7cf53_3 : decode cJ15_checkIndex_7cf53 3 = .ok (.invokestatic 105, 3) := by decide +kernel
theorem dJ15_checkIndex_7cf53_6 : decode cJ15_checkIndex_7cf53 6 = .ok (.ireturn, 1) := by decide +kernel
set_option maxRecDepth 20000 in
theorem ggJ8_newLength_cabcc_J8_hugeLength_7cf53 : GoodIn wsJ8_newLength_cabcc wsJ8_hugeLength_7cf53 := goodIn_r _ [9, 5] (by decide +kernel) (by decide +kernel)
set_option maxRecDepth 20000 in
theorem gJ8_newLength_cabcc_J8_hugeLength_7cf53 : GoodIn wsJ8_newLength_cabcc (va_wsS RJ8 201 yJ8_hugeLength_7cf53 wsJ8_hugeLength_7cf53) := goodIn_app (goodIn_of _ (by decide +kernel)) ggJ8_newLength_cabcc_J8_hugeLength_7cf53
theorem dJ8_newLength_cabcc_0 : decode cJ8_newLength_cabcc 0 = .ok (.iload_n 0, 1) := by decide +kernel
theorem dJ8_newLength_cabcc_1 : decode cJ8_newLength_cabcc 1 = .ok (.iload_n 1, 1) := by decide +kernel
theorem dJ8_newLength_cabcc_2 : decode cJ8_newLength_cabcc 2 = .ok (.iload_n 2, 1) := by decide +kernel
theorem dJ8_newLength_cabcc_3 : decode cJ8_newLength_cabcc 3 = .ok (.invokestatic 194, 3) := by decide +kernel
theorem dJ8_newLength_cabcc_6 : decode cJ8_newLength_cabcc 6 = .ok (.iadd, 1) := by decide +kernel
theorem dJ8_newLength_cabcc_7 : decode cJ8_newLength_cabcc 7 = .ok (.istore_n 3, 1) := by decide +kernel
theorem dJ8_newLength_cabcc_8 : decode cJ8_newLength_cabcc 8 = .ok (.iconst 0, 1) := by decide +kernel
theorem dJ8_newLength_cabcc_9 : decode cJ8_newLength_cabcc 9 = .ok (.iload_n 3, 1) := by decide +kernel
theorem dJ8_newLength_cabcc_10 : decode cJ8_newLength_cabcc 10 = .ok (.if_icmp .ge 11, 3) := by decide +kernel
theorem dJ8_newLength_cabcc_13 : decode cJ8_newLength_cabcc 13 = .ok (.iload_n 3, 1) := by decide +kernel
theorem dJ8_newLength_cabcc_14 : decode cJ8_newLength_cabcc 14 = .ok (.ldc 200, 2) := by decide +kernel
theorem dJ8_newLength_cabcc_16 : decode cJ8_newLength_cabcc 16 = .ok (.if_icmp .gt 5, 3) := by decide +kernel
theorem dJ8_newLength_cabcc_19 : decode cJ8_newLength_cabcc 19 = .ok (.iload_n 3, 1) := by decide +kernel
theorem dJ8_newLength_cabcc_20 : decode cJ8_newLength_cabcc 20 = .ok (.ireturn, 1) := by decide +kernel
theorem dJ8_newLength_cabcc_21 : decode cJ8_newLength_cabcc 21 = .ok (.iload_n 0, 1) := by decide +kernel
theorem dJ8_newLength_cabcc_22 : decode cJ8_newLength_cabcc 22 = .ok (.iload_n 1, 1) := by decide +kernel
theorem dJ8_newLength_cabcc_23 : decode cJ8_newLength_cabcc 23 = .ok (.invokestatic 201, 3) := by decide +kernel
theorem dJ8_newLength_cabcc_26 : decode cJ8_newLength_cabcc 26 = .ok (.ireturn, 1) := by decide +kernel
theorem dJ8_hugeLength_7cf53_0 : decode cJ8_hugeLength_7cf53 0 = .ok (.iload_n 0, 1) := by decide +kernel
theorem dJ8_hugeLength_7cf53_1 : decode cJ8_hugeLength_7cf53 1 = .ok (.iload_n 1, 1) := by decide +kernel
theorem dJ8_hugeLength_7cf53_2 : decode cJ8_hugeLength_7cf53 2 = .ok (.iadd, 1) := by decide +kernel
theorem dJ8_hugeLength_7cf53_3 : decode cJ8_hugeLength_7cf53 3 = .ok (.istore_n 2, 1) := by decide +kernel
theorem dJ8_hugeLength_7cf53_4 : decode cJ8_hugeLength_7cf53 4 = .ok (.iload_n 2, 1) := by decide +kernel
theorem dJ8_hugeLength_7cf53_5 : decode cJ8_hugeLength_7cf53 5 = .ok (.ifCond .ge 44, 3) := by decide +kernel
theorem dJ8_hugeLength_7cf53_8 : decode cJ8_hugeLength_7cf53 8 = .ok (.new 204, 3) := by decide +kernel
theorem dJ8_hugeLength_7cf53_11 : decode cJ8_hugeLength_7cf53 11 = .ok (.dup, 1) := by decide +kernel
theorem dJ8_hugeLength_7cf53_12 : decode cJ8_hugeLength_7cf53 12 = .ok (.new 89, 3) := by decide +kernel
theorem dJ8_hugeLength_7cf53_15 : decode cJ8_hugeLength_7cf53 15 = .ok (.dup, 1) := by decide +kernel
theorem dJ8_hugeLength_7cf53_16 : decode cJ8_hugeLength_7cf53 16 = .ok (.invokespecial 91, 3) := by decide +kernel
theorem dJ8_hugeLength_7cf53_19 : decode cJ8_hugeLength_7cf53 19 = .ok (.ldc 206, 2) := by decide +kernel
theorem dJ8_hugeLength_7cf53_21 : decode cJ8_hugeLength_7cf53 21 = .ok (.invokevirtual 94, 3) := by decide +kernel
theorem dJ8_hugeLength_7cf53_24 : decode cJ8_hugeLength_7cf53 24 = .ok (.iload_n 0, 1) := by decide +kernel
theorem dJ8_hugeLength_7cf53_25 : decode cJ8_hugeLength_7cf53 25 = .ok (.invokevirtual 98, 3) := by decide +kernel
theorem dJ8_hugeLength_7cf53_28 : decode cJ8_hugeLength_7cf53 28 = .ok (.ldc 208, 2) := by decide +kernel
theorem dJ8_hugeLength_7cf53_30 : decode cJ8_hugeLength_7cf53 30 = .ok (.invokevirtual 94, 3) := by decide +kernel
theorem dJ8_hugeLength_7cf53_33 : decode cJ8_hugeLength_7cf53 33 = .ok (.iload_n 1, 1) := by decide +kernel
theorem dJ8_hugeLength_7cf53_34 : decode cJ8_hugeLength_7cf53 34 = .ok (.invokevirtual 98, 3) := by decide +kernel
theorem dJ8_hugeLength_7cf53_37 : decode cJ8_hugeLength_7cf53 37 = .ok (.ldc 210, 2) := by decide +kernel
theorem dJ8_hugeLength_7cf53_39 : decode cJ8_hugeLength_7cf53 39 = .ok (.invokevirtual 94, 3) := by decide +kernel
theorem dJ8_hugeLength_7cf53_42 : decode cJ8_hugeLength_7cf53 42 = .ok (.invokevirtual 101, 3) := by decide +kernel
theorem dJ8_hugeLength_7cf53_45 : decode cJ8_hugeLength_7cf53 45 = .ok (.invokespecial 212, 3) := by decide +kernel
theorem dJ8_hugeLength_7cf53_48 : decode cJ8_hugeLength_7cf53 48 = .ok (.athrow, 1) := by decide +kernel
theorem dJ8_hugeLength_7cf53_49 : decode cJ8_hugeLength_7cf53 49 = .ok (.iload_n 2, 1) := by decide +kernel
theorem dJ8_hugeLength_7cf53_50 : decode cJ8_hugeLength_7cf53 50 = .ok (.ldc 200, 2) := by decide +kernel
theorem dJ8_hugeLength_7cf53_52 : decode cJ8_hugeLength_7cf53 52 = .ok (.if_icmp .gt 6, 3) := by decide +kernel
theorem dJ8_hugeLength_7cf53_55 : decode cJ8_hugeLength_7cf53 55 = .ok (.ldc 200, 2) := by decide +kernel
theorem dJ8_hugeLength_7cf53_57 : decode cJ8_hugeLength_7cf53 57 = .ok (.ireturn, 1) := by decide +kernel
theorem dJ8_hugeLength_7cf53_58 : decode cJ8_hugeLength_7cf53 58 = .ok (.iload_n 2, 1) := by decide +kernel
theorem dJ8_hugeLength_7cf53_59 : decode cJ8_hugeLength_7cf53 59 = .ok (.ireturn, 1) := by decide +kernel
theorem dJ3_checkIndex_8e157_0 : decode cJ3_checkIndex_8e157 0 = .ok (.iload_n 0, 1) := by decide +kernel
theorem dJ3_checkIndex_8e157_1 : decode cJ3_checkIndex_8e157 1 = .ok (.ifCond .lt 8, 3) := by decide +kernel
theorem dJ3_checkIndex_8e157_4 : decode cJ3_checkIndex_8e157 4 = .ok (.iload_n 0, 1) := by decide +kernel
theorem dJ3_checkIndex_8e157_5 : decode cJ3_checkIndex_8e157 5 = .ok (.iload_n 1, 1) := by decide +kernel
theorem dJ3_checkIndex_8e157_6 : decode cJ3_checkIndex_8e157 6 = .ok (.if_icmp .lt 10, 3) := by decide +kernel
theorem dJ3_checkIndex_8e157_9 : decode cJ3_checkIndex_8e157 9 = .ok (.aload_n 2, 1) := by decide +kernel
theorem dJ3_checkIndex_8e157_10 : decode cJ3_checkIndex_8e157 10 = .ok (.iload_n 0, 1) := by decide +kernel
theorem dJ3_checkIndex_8e157_11 : decode cJ3_checkIndex_8e157 11 = .ok (.iload_n 1, 1) := by decide +kernel
theorem dJ3_checkIndex_8e157_12 : decode cJ3_checkIndex_8e157 12 = .ok (.invokestatic 95, 3) := by decide +kernel
theorem dJ3_checkIndex_8e157_15 : decode cJ3_checkIndex_8e157 15 = .ok (.athrow, 1) := by decide +kernel
theorem dJ3_checkIndex_8e157_16 : decode cJ3_checkIndex_8e157 16 = .ok (.iload_n 0, 1) := by decide +kernel
theorem dJ3_checkIndex_8e157_17 : decode cJ3_checkIndex_8e157 17 = .ok (.ireturn, 1) := by decide +kernel
set_option maxRecDepth 20000 in
theorem ggL_steel_X5_steel : GoodIn wsL_steel wsX5_steel := goodIn_ca (goodIn_ca (goodIn_r _ [7, 8, 9, 10, 11, 12, 13, 14, 15, 6, 16, 17, 18, 19, 20, 21, 22, 23, 24, 25, 26, 27, 28, 29, 30] (by decide +kernel) (by decide +kernel)) (goodIn_sub (fun _ h => List.mem_cons_of_mem _ (List.mem_append_left _ (List.mem_append_right _ h))) (by decide +kernel))) (goodIn_sub (fun _ h => List.mem_cons_of_mem _ (List.mem_append_right _ h)) (by decide +kernel))
set_option maxRecDepth 20000 in
theorem gL_steel_X5_steel : GoodIn wsL_steel (wsV RL 7 RX5 yX5_steel wsX5_steel) := goodIn_app (goodIn_of _ (by decide +kernel)) ggL_steel_X5_steel
theorem dL_steel_0 : decode cL_steel 0 = .ok (.aload_n 0, 1) := by decide +kernel
theorem dL_steel_1 : decode cL_steel 1 = .ok (.iload_n 1, 1) := by decide +kernel
theorem dL_steel_2 : decode cL_steel 2 = .ok (.iload_n 2, 1) := by decide +kernel
theorem dL_steel_3 : decode cL_steel 3 = .ok (.iload_n 3, 1) := by decide +kernel
theorem dL_steel_4 : decode cL_steel 4 = .ok (.iload 4, 2) := by decide +kernel
theorem dL_steel_6 : decode cL_steel 6 = .ok (.invokevirtual 7, 3) := by decide +kernel
theorem dL_steel_9 : decode cL_steel 9 = .ok (.goto 11, 3) := by decide +kernel
theorem dL_steel_12 : decode cL_steel 12 = .ok (.astore 5, 2) := by decide +kernel
theorem dL_steel_14 : decode cL_steel 14 = .ok (.iconst 1, 1) := by decide +kernel
theorem dL_steel_15 : decode cL_steel 15 = .ok (.ireturn, 1) := by decide +kernel
theorem dL_steel_16 : decode cL_steel 16 = .ok (.astore 5, 2) := by decide +kernel
theorem dL_steel_18 : decode cL_steel 18 = .ok (.iconst 2, 1) := by decide +kernel
theorem dL_steel_19 : decode cL_steel 19 = .ok (.ireturn, 1) := by decide +kernel
theorem dL_steel_20 : decode cL_steel 20 = .ok (.iconst 0, 1) := by decide +kernel
theorem dL_steel_21 : decode cL_steel 21 = .ok (.ireturn, 1) := by decide +kernel
set_option maxRecDepth 20000 in
theorem ggL_melt_X5_melt : GoodIn wsL_melt wsX5_melt := goodIn_ca (goodIn_ca (goodIn_r _ [7, 8, 9, 10, 11, 12, 13, 6, 14, 15, 16, 17, 18, 19, 20, 21, 22, 23, 24, 25, 26, 27, 28, 29, 30, 31, 32, 33, 34, 35, 36, 37, 38, 39, 40, 41, 42, 43, 44, 45, 46, 47, 48, 49, 50, 51, 52, 53, 54, 55, 56, 57, 58, 59, 60, 61, 62, 63, 64, 65, 66, 67, 68, 69, 70, 71, 72, 73, 74, 75, 76, 77, 78, 79, 80, 81, 82, 83, 84, 85, 86, 87, 88] (by decide +kernel) (by decide +kernel)) (goodIn_sub (fun _ h => List.mem_cons_of_mem _ (List.mem_append_left _ (List.mem_append_right _ h))) (by decide +kernel))) (goodIn_sub (fun _ h => List.mem_cons_of_mem _ (List.mem_append_right _ h)) (by decide +kernel))
set_option maxRecDepth 20000 in
theorem gL_melt_X5_melt : GoodIn wsL_melt (wsV RL 17 RX5 yX5_melt wsX5_melt) := goodIn_app (goodIn_of _ (by decide +kernel)) ggL_melt_X5_melt
theorem dL_melt_0 : decode cL_melt 0 = .ok (.aload_n 2, 1) := by decide +kernel
theorem dL_melt_1 : decode cL_melt 1 = .ok (.iconst 0, 1) := by decide +kernel
theorem dL_melt_2 : decode cL_melt 2 = .ok (.aload_n 0, 1) := by decide +kernel
theorem dL_melt_3 : decode cL_melt 3 = .ok (.iload_n 1, 1) := by decide +kernel
theorem dL_melt_4 : decode cL_melt 4 = .ok (.invokevirtual 17, 3) := by decide +kernel
theorem dL_melt_7 : decode cL_melt 7 = .ok (.i2l, 1) := by decide +kernel
theorem dL_melt_8 : decode cL_melt 8 = .ok (.lastore, 1) := by decide +kernel
theorem dL_melt_9 : decode cL_melt 9 = .ok (.goto 9, 3) := by decide +kernel
theorem dL_melt_12 : decode cL_melt 12 = .ok (.astore_n 3, 1) := by decide +kernel
theorem dL_melt_13 : decode cL_melt 13 = .ok (.iconst 1, 1) := by decide +kernel
theorem dL_melt_14 : decode cL_melt 14 = .ok (.ireturn, 1) := by decide +kernel
theorem dL_melt_15 : decode cL_melt 15 = .ok (.astore_n 3, 1) := by decide +kernel
theorem dL_melt_16 : decode cL_melt 16 = .ok (.iconst 2, 1) := by decide +kernel
theorem dL_melt_17 : decode cL_melt 17 = .ok (.ireturn, 1) := by decide +kernel
theorem dL_melt_18 : decode cL_melt 18 = .ok (.iconst 0, 1) := by decide +kernel
theorem dL_melt_19 : decode cL_melt 19 = .ok (.ireturn, 1) := by decide +kernel
set_option maxRecDepth 20000 in
theorem ggL_billet_X5_billet : GoodIn wsL_billet wsX5_billet := goodIn_ca (goodIn_ca (goodIn_ca (goodIn_r _ [8, 9, 10, 11, 12, 13, 14, 15, 16, 17, 18, 19, 20, 21, 22, 23, 24, 25, 26, 27, 28, 29, 30, 31, 32, 33, 34, 35, 36, 37, 38, 39, 40, 41, 42, 43, 44, 45, 46, 47, 48, 49, 50, 51, 52, 53, 54, 55, 56, 57, 58, 59, 60, 61, 62, 63, 64, 65, 66, 67, 68, 69, 70, 71, 72, 73, 74, 75, 76, 77, 78, 79, 80, 81, 82, 83, 84, 85, 86, 87, 88, 89, 90, 91, 92, 93, 94, 95, 96, 97, 98, 99, 100, 101, 102, 103, 104, 105, 106, 107, 108, 109, 110, 111, 112, 113, 114, 115, 116, 117, 118, 119, 120, 121, 122, 123, 124, 125, 126, 127, 128, 129, 130, 131, 132, 133, 134, 135, 136, 137, 138, 139, 140, 141, 142, 143, 144, 145, 146, 147] (by decide +kernel) (by decide +kernel)) (goodIn_sub (fun _ h => List.mem_cons_of_mem _ (List.mem_append_left _ (List.mem_append_left _ (List.mem_append_right _ h)))) (by decide +kernel))) (goodIn_sub (fun _ h => List.mem_cons_of_mem _ (List.mem_append_left _ (List.mem_append_right _ h))) (by decide +kernel))) (goodIn_sub (fun _ h => List.mem_cons_of_mem _ (List.mem_append_right _ h)) (by decide +kernel))
set_option maxRecDepth 20000 in
theorem gL_billet_X5_billet : GoodIn wsL_billet (wsV RL 23 RX5 yX5_billet wsX5_billet) := goodIn_app (goodIn_of _ (by decide +kernel)) ggL_billet_X5_billet
theorem dL_billet_0 : decode cL_billet 0 = .ok (.aload_n 3, 1) := by decide +kernel
theorem dL_billet_1 : decode cL_billet 1 = .ok (.iconst 0, 1) := by decide +kernel
theorem dL_billet_2 : decode cL_billet 2 = .ok (.aload_n 0, 1) := by decide +kernel
theorem dL_billet_3 : decode cL_billet 3 = .ok (.iload_n 1, 1) := by decide +kernel
theorem dL_billet_4 : decode cL_billet 4 = .ok (.iload_n 2, 1) := by decide +kernel
theorem dL_billet_5 : decode cL_billet 5 = .ok (.invokevirtual 23, 3) := by decide +kernel
theorem dL_billet_8 : decode cL_billet 8 = .ok (.i2l, 1) := by decide +kernel
theorem dL_billet_9 : decode cL_billet 9 = .ok (.lastore, 1) := by decide +kernel
theorem dL_billet_10 : decode cL_billet 10 = .ok (.goto 15, 3) := by decide +kernel
theorem dL_billet_13 : decode cL_billet 13 = .ok (.astore 4, 2) := by decide +kernel
theorem dL_billet_15 : decode cL_billet 15 = .ok (.iconst 1, 1) := by decide +kernel
theorem dL_billet_16 : decode cL_billet 16 = .ok (.ireturn, 1) := by decide +kernel
theorem dL_billet_17 : decode cL_billet 17 = .ok (.astore 4, 2) := by decide +kernel
theorem dL_billet_19 : decode cL_billet 19 = .ok (.iconst 2, 1) := by decide +kernel
theorem dL_billet_20 : decode cL_billet 20 = .ok (.ireturn, 1) := by decide +kernel
theorem dL_billet_21 : decode cL_billet 21 = .ok (.astore 4, 2) := by decide +kernel
theorem dL_billet_23 : decode cL_billet 23 = .ok (.iconst 3, 1) := by decide +kernel
theorem dL_billet_24 : decode cL_billet 24 = .ok (.ireturn, 1) := by decide +kernel
theorem dL_billet_25 : decode cL_billet 25 = .ok (.iconst 0, 1) := by decide +kernel
theorem dL_billet_26 : decode cL_billet 26 = .ok (.ireturn, 1) := by decide +kernel
set_option maxRecDepth 20000 in
theorem ggL_billetIs_X5_billetIs : GoodIn wsL_billetIs wsX5_billetIs := goodIn_ca (goodIn_ca (goodIn_r _ [7, 8, 9, 10, 11, 12, 13, 14, 15, 16, 17, 18, 19, 20, 6, 21, 22, 23, 24, 25, 26, 27, 28, 29, 30, 31, 32, 33, 34, 35, 36, 37, 38, 39, 40, 41, 42, 43, 44, 45, 46, 47, 48, 49, 50, 51, 52, 53, 54, 55, 56, 57, 58, 59, 60, 61, 62, 63, 64, 65, 66, 67, 68, 69, 70, 71, 72, 73, 74, 75, 76, 77, 78, 79, 80, 81, 82, 83] (by decide +kernel) (by decide +kernel)) (goodIn_sub (fun _ h => List.mem_cons_of_mem _ (List.mem_append_left _ (List.mem_append_right _ h))) (by decide +kernel))) (goodIn_sub (fun _ h => List.mem_cons_of_mem _ (List.mem_append_right _ h)) (by decide +kernel))
set_option maxRecDepth 20000 in
theorem gL_billetIs_X5_billetIs : GoodIn wsL_billetIs (wsV RL 27 RX5 yX5_billetIs wsX5_billetIs) := goodIn_app (goodIn_of _ (by decide +kernel)) ggL_billetIs_X5_billetIs
theorem dL_billetIs_0 : decode cL_billetIs 0 = .ok (.aload_n 3, 1) := by decide +kernel
theorem dL_billetIs_1 : decode cL_billetIs 1 = .ok (.iconst 0, 1) := by decide +kernel
theorem dL_billetIs_2 : decode cL_billetIs 2 = .ok (.aload_n 0, 1) := by decide +kernel
theorem dL_billetIs_3 : decode cL_billetIs 3 = .ok (.iload_n 1, 1) := by decide +kernel
theorem dL_billetIs_4 : decode cL_billetIs 4 = .ok (.iload_n 2, 1) := by decide +kernel
theorem dL_billetIs_5 : decode cL_billetIs 5 = .ok (.invokevirtual 27, 3) := by decide +kernel
theorem dL_billetIs_8 : decode cL_billetIs 8 = .ok (.i2l, 1) := by decide +kernel
theorem dL_billetIs_9 : decode cL_billetIs 9 = .ok (.lastore, 1) := by decide +kernel
theorem dL_billetIs_10 : decode cL_billetIs 10 = .ok (.goto 11, 3) := by decide +kernel
theorem dL_billetIs_13 : decode cL_billetIs 13 = .ok (.astore 4, 2) := by decide +kernel
theorem dL_billetIs_15 : decode cL_billetIs 15 = .ok (.iconst 1, 1) := by decide +kernel
theorem dL_billetIs_16 : decode cL_billetIs 16 = .ok (.ireturn, 1) := by decide +kernel
theorem dL_billetIs_17 : decode cL_billetIs 17 = .ok (.astore 4, 2) := by decide +kernel
theorem dL_billetIs_19 : decode cL_billetIs 19 = .ok (.iconst 2, 1) := by decide +kernel
theorem dL_billetIs_20 : decode cL_billetIs 20 = .ok (.ireturn, 1) := by decide +kernel
theorem dL_billetIs_21 : decode cL_billetIs 21 = .ok (.iconst 0, 1) := by decide +kernel
theorem dL_billetIs_22 : decode cL_billetIs 22 = .ok (.ireturn, 1) := by decide +kernel
set_option maxRecDepth 20000 in
theorem ggL_area_X5_area : GoodIn wsL_area wsX5_area := goodIn_ca (goodIn_r _ [6, 7, 8, 9, 10, 5, 11, 12, 13, 14, 15, 16, 17, 18, 19, 20, 21, 22, 23, 24, 25, 26, 27, 28, 29, 30, 31, 32, 33, 34, 35, 36, 37, 38, 39, 40, 41, 42, 43, 44, 45, 46, 47, 48, 49, 50, 51, 52, 53, 54, 55, 56, 57, 58, 59, 60, 61, 62, 63, 64, 65, 66, 67, 68, 69, 70] (by decide +kernel) (by decide +kernel)) (goodIn_sub (fun _ h => List.mem_cons_of_mem _ (List.mem_append_right _ h)) (by decide +kernel))
set_option maxRecDepth 20000 in
theorem gL_area_X5_area : GoodIn wsL_area (wsV RL 30 RX5 yX5_area wsX5_area) := goodIn_app (goodIn_of _ (by decide +kernel)) ggL_area_X5_area
theorem dL_area_0 : decode cL_area 0 = .ok (.aload_n 3, 1) := by decide +kernel
theorem dL_area_1 : decode cL_area 1 = .ok (.iconst 0, 1) := by decide +kernel
theorem dL_area_2 : decode cL_area 2 = .ok (.aload_n 0, 1) := by decide +kernel
theorem dL_area_3 : decode cL_area 3 = .ok (.iload_n 1, 1) := by decide +kernel
theorem dL_area_4 : decode cL_area 4 = .ok (.iload_n 2, 1) := by decide +kernel
theorem dL_area_5 : decode cL_area 5 = .ok (.invokevirtual 30, 3) := by decide +kernel
theorem dL_area_8 : decode cL_area 8 = .ok (.i2l, 1) := by decide +kernel
theorem dL_area_9 : decode cL_area 9 = .ok (.lastore, 1) := by decide +kernel
theorem dL_area_10 : decode cL_area 10 = .ok (.goto 7, 3) := by decide +kernel
theorem dL_area_13 : decode cL_area 13 = .ok (.astore 4, 2) := by decide +kernel
theorem dL_area_15 : decode cL_area 15 = .ok (.iconst 1, 1) := by decide +kernel
theorem dL_area_16 : decode cL_area 16 = .ok (.ireturn, 1) := by decide +kernel
theorem dL_area_17 : decode cL_area 17 = .ok (.iconst 0, 1) := by decide +kernel
theorem dL_area_18 : decode cL_area 18 = .ok (.ireturn, 1) := by decide +kernel
set_option maxRecDepth 20000 in
theorem ggL_balances_X5_balances : GoodIn wsL_balances wsX5_balances := goodIn_ca (goodIn_r _ [6, 7, 8, 9, 10, 11, 12, 13, 5, 14, 15, 16, 17, 18, 19, 20, 21, 22, 23, 24, 25, 26, 27, 28, 29, 30, 31, 32, 33, 34, 35, 36, 37, 38, 39, 40, 41, 42, 43, 44, 45, 46, 47, 48, 49, 50, 51, 52, 53, 54, 55, 56, 57, 58, 59, 60, 61, 62, 63, 64, 65, 66, 67, 68, 69, 70, 71, 72, 73, 74, 75, 76] (by decide +kernel) (by decide +kernel)) (goodIn_sub (fun _ h => List.mem_cons_of_mem _ (List.mem_append_right _ h)) (by decide +kernel))
set_option maxRecDepth 20000 in
theorem gL_balances_X5_balances : GoodIn wsL_balances (wsV RL 33 RX5 yX5_balances wsX5_balances) := goodIn_app (goodIn_of _ (by decide +kernel)) ggL_balances_X5_balances
theorem dL_balances_0 : decode cL_balances 0 = .ok (.aload_n 2, 1) := by decide +kernel
theorem dL_balances_1 : decode cL_balances 1 = .ok (.iconst 0, 1) := by decide +kernel
theorem dL_balances_2 : decode cL_balances 2 = .ok (.aload_n 0, 1) := by decide +kernel
theorem dL_balances_3 : decode cL_balances 3 = .ok (.iload_n 1, 1) := by decide +kernel
theorem dL_balances_4 : decode cL_balances 4 = .ok (.invokevirtual 33, 3) := by decide +kernel
theorem dL_balances_7 : decode cL_balances 7 = .ok (.ifCond .eq 7, 3) := by decide +kernel
theorem dL_balances_10 : decode cL_balances 10 = .ok (.lconst 1, 1) := by decide +kernel
theorem dL_balances_11 : decode cL_balances 11 = .ok (.goto 4, 3) := by decide +kernel
theorem dL_balances_14 : decode cL_balances 14 = .ok (.lconst 0, 1) := by decide +kernel
theorem dL_balances_15 : decode cL_balances 15 = .ok (.lastore, 1) := by decide +kernel
theorem dL_balances_16 : decode cL_balances 16 = .ok (.goto 6, 3) := by decide +kernel
theorem dL_balances_19 : decode cL_balances 19 = .ok (.astore_n 3, 1) := by decide +kernel
theorem dL_balances_20 : decode cL_balances 20 = .ok (.iconst 1, 1) := by decide +kernel
theorem dL_balances_21 : decode cL_balances 21 = .ok (.ireturn, 1) := by decide +kernel
theorem dL_balances_22 : decode cL_balances 22 = .ok (.iconst 0, 1) := by decide +kernel
theorem dL_balances_23 : decode cL_balances 23 = .ok (.ireturn, 1) := by decide +kernel
set_option maxRecDepth 20000 in
theorem ggL_heat_X5_heat : GoodIn wsL_heat wsX5_heat := goodIn_ca (goodIn_ca (goodIn_ca (goodIn_r _ [8, 9, 10, 11, 12, 13, 14, 15, 16, 17, 18, 19, 7, 20, 21, 22, 23, 24, 25, 26, 27, 28, 29, 30, 31, 32, 33, 34, 35, 36, 37, 38, 39, 40, 41, 42, 43, 44, 45, 46, 47, 48, 49, 50, 51, 52, 53, 54, 55, 56, 57, 58, 59, 60, 61, 62, 63, 64, 65, 66, 67, 68, 69, 70, 71, 72, 73, 74, 75, 76, 77, 78, 79, 80, 81, 82, 83, 84, 85, 86, 87, 88, 89, 90, 91, 92, 93, 94, 95, 96, 97, 98, 99, 100, 101, 102, 103, 104, 105, 106] (by decide +kernel) (by decide +kernel)) (goodIn_sub (fun _ h => List.mem_cons_of_mem _ (List.mem_append_left _ (List.mem_append_left _ (List.mem_append_right _ h)))) (by decide +kernel))) (goodIn_sub (fun _ h => List.mem_cons_of_mem _ (List.mem_append_left _ (List.mem_append_right _ h))) (by decide +kernel))) (goodIn_sub (fun _ h => List.mem_cons_of_mem _ (List.mem_append_right _ h)) (by decide +kernel))
set_option maxRecDepth 20000 in
theorem gL_heat_X5_heat : GoodIn wsL_heat (wsV RL 37 RX5 yX5_heat wsX5_heat) := goodIn_app (goodIn_of _ (by decide +kernel)) ggL_heat_X5_heat
theorem dL_heat_0 : decode cL_heat 0 = .ok (.aload 4, 2) := by decide +kernel
theorem dL_heat_2 : decode cL_heat 2 = .ok (.iconst 0, 1) := by decide +kernel
theorem dL_heat_3 : decode cL_heat 3 = .ok (.aload_n 0, 1) := by decide +kernel
theorem dL_heat_4 : decode cL_heat 4 = .ok (.iload_n 1, 1) := by decide +kernel
theorem dL_heat_5 : decode cL_heat 5 = .ok (.iload_n 2, 1) := by decide +kernel
theorem dL_heat_6 : decode cL_heat 6 = .ok (.iload_n 3, 1) := by decide +kernel
theorem dL_heat_7 : decode cL_heat 7 = .ok (.invokevirtual 37, 3) := by decide +kernel
theorem dL_heat_10 : decode cL_heat 10 = .ok (.i2l, 1) := by decide +kernel
theorem dL_heat_11 : decode cL_heat 11 = .ok (.lastore, 1) := by decide +kernel
theorem dL_heat_12 : decode cL_heat 12 = .ok (.goto 15, 3) := by decide +kernel
theorem dL_heat_15 : decode cL_heat 15 = .ok (.astore 5, 2) := by decide +kernel
