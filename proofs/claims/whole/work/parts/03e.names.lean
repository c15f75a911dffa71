theorem dX6_volume_23 : decode cX6_volume 23 = .ok (.iload_n 3, 1) := by decide +kernel
theorem dX6_volume_24 : decode cX6_volume 24 = .ok (.iaload, 1) := by decide +kernel
theorem dX6_volume_25 : decode cX6_volume 25 = .ok (.iadd, 1) := by decide +kernel
theorem dX6_volume_26 : decode cX6_volume 26 = .ok (.istore_n 2, 1) := by decide +kernel
theorem dX6_volume_27 : decode cX6_volume 27 = .ok (.iinc 3 1, 3) := by decide +kernel
theorem dX6_volume_30 : decode cX6_volume 30 = .ok (.goto (-23), 3) := by decide +kernel
theorem dX6_volume_33 : decode cX6_volume 33 = .ok (.iload_n 2, 1) := by decide +kernel
theorem dX6_volume_34 : decode cX6_volume 34 = .ok (.ireturn, 1) := by decide +kernel
set_option maxRecDepth 20000 in
theorem ggX6_told_X6_volume : GoodIn wsX6_told wsX6_volume := goodIn_r _ [13, 14, 15, 16, 17, 18, 19, 20, 21, 22, 23, 24, 25, 26, 27, 28, 29, 30, 31, 32, 33, 34, 35, 36, 37, 38, 39, 40, 41, 42, 43, 44, 45, 46] (by decide +kernel) (by decide +kernel)
set_option maxRecDepth 20000 in
theorem gX6_told_X6_volume : GoodIn wsX6_told (wsV RX6 110 RX6 yX6_volume wsX6_volume) := goodIn_app (goodIn_of _ (by decide +kernel)) ggX6_told_X6_volume
theorem dX6_told_0 : decode cX6_told 0 = .ok (.iload_n 2, 1) := by decide +kernel
theorem dX6_told_1 : decode cX6_told 1 = .ok (.tableswitch 110 0 7 #[47, 54, 61, 67, 74, 81, 88, 103], 47) := by decide +kernel
theorem dX6_told_48 : decode cX6_told 48 = .ok (.aload_n 0, 1) := by decide +kernel
theorem dX6_told_49 : decode cX6_told 49 = .ok (.getfield 31, 3) := by decide +kernel
theorem dX6_told_52 : decode cX6_told 52 = .ok (.iload_n 1, 1) := by decide +kernel
theorem dX6_told_53 : decode cX6_told 53 = .ok (.iaload, 1) := by decide +kernel
theorem dX6_told_54 : decode cX6_told 54 = .ok (.ireturn, 1) := by decide +kernel
theorem dX6_told_55 : decode cX6_told 55 = .ok (.aload_n 0, 1) := by decide +kernel
theorem dX6_told_56 : decode cX6_told 56 = .ok (.getfield 34, 3) := by decide +kernel
theorem dX6_told_59 : decode cX6_told 59 = .ok (.iload_n 1, 1) := by decide +kernel
theorem dX6_told_60 : decode cX6_told 60 = .ok (.iaload, 1) := by decide +kernel
theorem dX6_told_61 : decode cX6_told 61 = .ok (.ireturn, 1) := by decide +kernel
theorem dX6_told_62 : decode cX6_told 62 = .ok (.aload_n 0, 1) := by decide +kernel
theorem dX6_told_63 : decode cX6_told 63 = .ok (.iload_n 1, 1) := by decide +kernel
theorem dX6_told_64 : decode cX6_told 64 = .ok (.invokevirtual 110, 3) := by decide +kernel
theorem dX6_told_67 : decode cX6_told 67 = .ok (.ireturn, 1) := by decide +kernel
theorem dX6_told_68 : decode cX6_told 68 = .ok (.aload_n 0, 1) := by decide +kernel
theorem dX6_told_69 : decode cX6_told 69 = .ok (.getfield 40, 3) := by decide +kernel
theorem dX6_told_72 : decode cX6_told 72 = .ok (.iload_n 1, 1) := by decide +kernel
theorem dX6_told_73 : decode cX6_told 73 = .ok (.iaload, 1) := by decide +kernel
theorem dX6_told_74 : decode cX6_told 74 = .ok (.ireturn, 1) := by decide +kernel
theorem dX6_told_75 : decode cX6_told 75 = .ok (.aload_n 0, 1) := by decide +kernel
theorem dX6_told_76 : decode cX6_told 76 = .ok (.getfield 37, 3) := by decide +kernel
theorem dX6_told_79 : decode cX6_told 79 = .ok (.iload_n 1, 1) := by decide +kernel
theorem dX6_told_80 : decode cX6_told 80 = .ok (.iaload, 1) := by decide +kernel
theorem dX6_told_81 : decode cX6_told 81 = .ok (.ireturn, 1) := by decide +kernel
theorem dX6_told_82 : decode cX6_told 82 = .ok (.aload_n 0, 1) := by decide +kernel
theorem dX6_told_83 : decode cX6_told 83 = .ok (.getfield 43, 3) := by decide +kernel
theorem dX6_told_86 : decode cX6_told 86 = .ok (.iload_n 1, 1) := by decide +kernel
theorem dX6_told_87 : decode cX6_told 87 = .ok (.iaload, 1) := by decide +kernel
theorem dX6_told_88 : decode cX6_told 88 = .ok (.ireturn, 1) := by decide +kernel
theorem dX6_told_89 : decode cX6_told 89 = .ok (.aload_n 0, 1) := by decide +kernel
theorem dX6_told_90 : decode cX6_told 90 = .ok (.getfield 46, 3) := by decide +kernel
theorem dX6_told_93 : decode cX6_told 93 = .ok (.iload_n 1, 1) := by decide +kernel
theorem dX6_told_94 : decode cX6_told 94 = .ok (.baload, 1) := by decide +kernel
theorem dX6_told_95 : decode cX6_told 95 = .ok (.ifCond .eq 7, 3) := by decide +kernel
theorem dX6_told_98 : decode cX6_told 98 = .ok (.iconst 1, 1) := by decide +kernel
theorem dX6_told_99 : decode cX6_told 99 = .ok (.goto 4, 3) := by decide +kernel
theorem dX6_told_102 : decode cX6_told 102 = .ok (.iconst 0, 1) := by decide +kernel
theorem dX6_told_103 : decode cX6_told 103 = .ok (.ireturn, 1) := by decide +kernel
theorem dX6_told_104 : decode cX6_told 104 = .ok (.aload_n 0, 1) := by decide +kernel
theorem dX6_told_105 : decode cX6_told 105 = .ok (.getfield 50, 3) := by decide +kernel
theorem dX6_told_108 : decode cX6_told 108 = .ok (.iload_n 1, 1) := by decide +kernel
theorem dX6_told_109 : decode cX6_told 109 = .ok (.iaload, 1) := by decide +kernel
theorem dX6_told_110 : decode cX6_told 110 = .ok (.ireturn, 1) := by decide +kernel
theorem dX6_told_111 : decode cX6_told 111 = .ok (.aload_n 0, 1) := by decide +kernel
theorem dX6_told_112 : decode cX6_told 112 = .ok (.getfield 53, 3) := by decide +kernel
theorem dX6_told_115 : decode cX6_told 115 = .ok (.iload_n 1, 1) := by decide +kernel
theorem dX6_told_116 : decode cX6_told 116 = .ok (.iaload, 1) := by decide +kernel
theorem dX6_told_117 : decode cX6_told 117 = .ok (.ireturn, 1) := by decide +kernel
set_option maxRecDepth 20000 in
theorem ggX6_billetIs_X6_isBillet : GoodIn wsX6_billetIs wsX6_isBillet := goodIn_r _ [5, 6, 7, 8, 4, 9, 32, 33, 34, 35, 36, 37, 38, 39, 40, 41, 42, 43, 44, 45, 46, 47, 48, 49, 50, 51, 52, 53, 54, 55, 56, 57, 58, 59, 60, 61, 62, 63] (by decide +kernel) (by decide +kernel)
set_option maxRecDepth 20000 in
theorem gX6_billetIs_X6_isBillet : GoodIn wsX6_billetIs (wsV RX6 114 RX6 yX6_isBillet wsX6_isBillet) := goodIn_app (goodIn_of _ (by decide +kernel)) ggX6_billetIs_X6_isBillet
set_option maxRecDepth 20000 in
theorem ggX6_billetIs_X6_in : GoodIn wsX6_billetIs wsX6_in := goodIn_r _ [9] (by decide +kernel) (by decide +kernel)
set_option maxRecDepth 20000 in
theorem gX6_billetIs_X6_in : GoodIn wsX6_billetIs (va_wsS RX6 96 yX6_in wsX6_in) := goodIn_app (goodIn_of _ (by decide +kernel)) ggX6_billetIs_X6_in
set_option maxRecDepth 20000 in
theorem ggX6_billetIs_X6_goes : GoodIn wsX6_billetIs wsX6_goes := goodIn_r _ [13, 14, 32, 33, 34, 35, 36, 37, 38, 39, 40, 41, 42, 43, 44, 45, 46, 47, 48, 49, 50, 51, 52, 53, 54, 55, 56, 57, 58, 59, 60, 61, 62, 63] (by decide +kernel) (by decide +kernel)
set_option maxRecDepth 20000 in
theorem gX6_billetIs_X6_goes : GoodIn wsX6_billetIs (wsV RX6 103 RX6 yX6_goes wsX6_goes) := goodIn_app (goodIn_of _ (by decide +kernel)) ggX6_billetIs_X6_goes
set_option maxRecDepth 20000 in
theorem ggX6_billetIs_X6_told : GoodIn wsX6_billetIs wsX6_told := goodIn_r _ [18, 19, 20, 21, 22, 23, 24, 25, 26, 27, 28, 29, 4, 30, 31, 32, 33, 34, 35, 36, 37, 38, 39, 40, 41, 42, 43, 44, 45, 46, 47, 48, 49, 50, 51, 52, 53, 54, 55, 56, 57, 58, 59, 60, 61, 62, 63] (by decide +kernel) (by decide +kernel)
set_option maxRecDepth 20000 in
theorem gX6_billetIs_X6_told : GoodIn wsX6_billetIs (wsV RX6 118 RX6 yX6_told wsX6_told) := goodIn_app (goodIn_of _ (by decide +kernel)) ggX6_billetIs_X6_told
theorem dX6_billetIs_0 : decode cX6_billetIs 0 = .ok (.aload_n 0, 1) := by decide +kernel
theorem dX6_billetIs_1 : decode cX6_billetIs 1 = .ok (.aload_n 0, 1) := by decide +kernel
theorem dX6_billetIs_2 : decode cX6_billetIs 2 = .ok (.iload_n 1, 1) := by decide +kernel
theorem dX6_billetIs_3 : decode cX6_billetIs 3 = .ok (.invokevirtual 114, 3) := by decide +kernel
theorem dX6_billetIs_6 : decode cX6_billetIs 6 = .ok (.iload_n 2, 1) := by decide +kernel
theorem dX6_billetIs_7 : decode cX6_billetIs 7 = .ok (.iconst 0, 1) := by decide +kernel
theorem dX6_billetIs_8 : decode cX6_billetIs 8 = .ok (.bipush 8, 2) := by decide +kernel
theorem dX6_billetIs_10 : decode cX6_billetIs 10 = .ok (.invokestatic 96, 3) := by decide +kernel
theorem dX6_billetIs_13 : decode cX6_billetIs 13 = .ok (.iconst 1, 1) := by decide +kernel
theorem dX6_billetIs_14 : decode cX6_billetIs 14 = .ok (.invokevirtual 103, 3) := by decide +kernel
theorem dX6_billetIs_17 : decode cX6_billetIs 17 = .ok (.ifCond .eq 12, 3) := by decide +kernel
theorem dX6_billetIs_20 : decode cX6_billetIs 20 = .ok (.aload_n 0, 1) := by decide +kernel
theorem dX6_billetIs_21 : decode cX6_billetIs 21 = .ok (.iload_n 1, 1) := by decide +kernel
theorem dX6_billetIs_22 : decode cX6_billetIs 22 = .ok (.iload_n 2, 1) := by decide +kernel
theorem dX6_billetIs_23 : decode cX6_billetIs 23 = .ok (.invokevirtual 118, 3) := by decide +kernel
theorem dX6_billetIs_26 : decode cX6_billetIs 26 = .ok (.goto 4, 3) := by decide +kernel
theorem dX6_billetIs_29 : decode cX6_billetIs 29 = .ok (.iconst 0, 1) := by decide +kernel
theorem dX6_billetIs_30 : decode cX6_billetIs 30 = .ok (.ireturn, 1) := by decide +kernel
set_option maxRecDepth 20000 in
theorem ggX6_area_X6_isBillet : GoodIn wsX6_area wsX6_isBillet := goodIn_r _ [6, 7, 8, 9, 5, 10, 19, 20, 21, 22, 23, 24, 25, 26, 27, 28, 29, 30, 31, 32, 33, 34, 35, 36, 37, 38, 39, 40, 41, 42, 43, 44, 45, 46, 47, 48, 49, 50] (by decide +kernel) (by decide +kernel)
set_option maxRecDepth 20000 in
theorem gX6_area_X6_isBillet : GoodIn wsX6_area (wsV RX6 114 RX6 yX6_isBillet wsX6_isBillet) := goodIn_app (goodIn_of _ (by decide +kernel)) ggX6_area_X6_isBillet
set_option maxRecDepth 20000 in
theorem ggX6_area_X6_isSection : GoodIn wsX6_area wsX6_isSection := goodIn_r _ [13, 8, 9, 5, 10] (by decide +kernel) (by decide +kernel)
set_option maxRecDepth 20000 in
theorem gX6_area_X6_isSection : GoodIn wsX6_area (va_wsS RX6 122 yX6_isSection wsX6_isSection) := goodIn_app (goodIn_of _ (by decide +kernel)) ggX6_area_X6_isSection
set_option maxRecDepth 20000 in
theorem ggX6_area_X6_goes : GoodIn wsX6_area wsX6_goes := goodIn_r _ [17, 18, 19, 20, 21, 22, 23, 24, 25, 26, 27, 28, 29, 30, 31, 32, 33, 34, 35, 36, 37, 38, 39, 40, 41, 42, 43, 44, 45, 46, 47, 48, 49, 50] (by decide +kernel) (by decide +kernel)
set_option maxRecDepth 20000 in
theorem gX6_area_X6_goes : GoodIn wsX6_area (wsV RX6 103 RX6 yX6_goes wsX6_goes) := goodIn_app (goodIn_of _ (by decide +kernel)) ggX6_area_X6_goes
theorem dX6_area_0 : decode cX6_area 0 = .ok (.aload_n 0, 1) := by decide +kernel
theorem dX6_area_1 : decode cX6_area 1 = .ok (.aload_n 0, 1) := by decide +kernel
theorem dX6_area_2 : decode cX6_area 2 = .ok (.iload_n 1, 1) := by decide +kernel
theorem dX6_area_3 : decode cX6_area 3 = .ok (.invokevirtual 114, 3) := by decide +kernel
theorem dX6_area_6 : decode cX6_area 6 = .ok (.ifCond .eq 14, 3) := by decide +kernel
theorem dX6_area_9 : decode cX6_area 9 = .ok (.iload_n 2, 1) := by decide +kernel
theorem dX6_area_10 : decode cX6_area 10 = .ok (.invokestatic 122, 3) := by decide +kernel
theorem dX6_area_13 : decode cX6_area 13 = .ok (.ifCond .eq 7, 3) := by decide +kernel
theorem dX6_area_16 : decode cX6_area 16 = .ok (.iconst 1, 1) := by decide +kernel
theorem dX6_area_17 : decode cX6_area 17 = .ok (.goto 4, 3) := by decide +kernel
theorem dX6_area_20 : decode cX6_area 20 = .ok (.iconst 0, 1) := by decide +kernel
theorem dX6_area_21 : decode cX6_area 21 = .ok (.iconst 1, 1) := by decide +kernel
theorem dX6_area_22 : decode cX6_area 22 = .ok (.iconst 1, 1) := by decide +kernel
theorem dX6_area_23 : decode cX6_area 23 = .ok (.invokevirtual 103, 3) := by decide +kernel
theorem dX6_area_26 : decode cX6_area 26 = .ok (.ifCond .eq 17, 3) := by decide +kernel
theorem dX6_area_29 : decode cX6_area 29 = .ok (.aload_n 0, 1) := by decide +kernel
theorem dX6_area_30 : decode cX6_area 30 = .ok (.getfield 25, 3) := by decide +kernel
theorem dX6_area_33 : decode cX6_area 33 = .ok (.bipush 8, 2) := by decide +kernel
theorem dX6_area_35 : decode cX6_area 35 = .ok (.iload_n 1, 1) := by decide +kernel
theorem dX6_area_36 : decode cX6_area 36 = .ok (.imul, 1) := by decide +kernel
theorem dX6_area_37 : decode cX6_area 37 = .ok (.iload_n 2, 1) := by decide +kernel
theorem dX6_area_38 : decode cX6_area 38 = .ok (.iadd, 1) := by decide +kernel
theorem dX6_area_39 : decode cX6_area 39 = .ok (.iaload, 1) := by decide +kernel
theorem dX6_area_40 : decode cX6_area 40 = .ok (.goto 4, 3) := by decide +kernel
theorem dX6_area_43 : decode cX6_area 43 = .ok (.iconst 0, 1) := by decide +kernel
theorem dX6_area_44 : decode cX6_area 44 = .ok (.ireturn, 1) := by decide +kernel
set_option maxRecDepth 20000 in
theorem ggX6_balances_X6_isBillet : GoodIn wsX6_balances wsX6_isBillet := goodIn_r _ [7, 8, 9, 10, 6, 11, 22, 23, 24, 25, 26, 27, 28, 29, 30, 31, 32, 33, 34, 35, 36, 37, 38, 39, 40, 41, 42, 43, 44, 45, 46, 47, 48, 49, 50, 51, 52, 53] (by decide +kernel) (by decide +kernel)
set_option maxRecDepth 20000 in
theorem gX6_balances_X6_isBillet : GoodIn wsX6_balances (wsV RX6 114 RX6 yX6_isBillet wsX6_isBillet) := goodIn_app (goodIn_of _ (by decide +kernel)) ggX6_balances_X6_isBillet
set_option maxRecDepth 20000 in
theorem ggX6_balances_X6_goes : GoodIn wsX6_balances wsX6_goes := goodIn_r _ [15, 16, 22, 23, 24, 25, 26, 27, 28, 29, 30, 31, 32, 33, 34, 35, 36, 37, 38, 39, 40, 41, 42, 43, 44, 45, 46, 47, 48, 49, 50, 51, 52, 53] (by decide +kernel) (by decide +kernel)
set_option maxRecDepth 20000 in
theorem gX6_balances_X6_goes : GoodIn wsX6_balances (wsV RX6 103 RX6 yX6_goes wsX6_goes) := goodIn_app (goodIn_of _ (by decide +kernel)) ggX6_balances_X6_goes
set_option maxRecDepth 20000 in
theorem ggX6_balances_X6_volume : GoodIn wsX6_balances wsX6_volume := goodIn_r _ [20, 21, 22, 23, 24, 25, 26, 27, 28, 29, 30, 31, 32, 33, 34, 35, 36, 37, 38, 39, 40, 41, 42, 43, 44, 45, 46, 47, 48, 49, 50, 51, 52, 53] (by decide +kernel) (by decide +kernel)
set_option maxRecDepth 20000 in
theorem gX6_balances_X6_volume : GoodIn wsX6_balances (wsV RX6 110 RX6 yX6_volume wsX6_volume) := goodIn_app (goodIn_of _ (by decide +kernel)) ggX6_balances_X6_volume
theorem dX6_balances_0 : decode cX6_balances 0 = .ok (.aload_n 0, 1) := by decide +kernel
theorem dX6_balances_1 : decode cX6_balances 1 = .ok (.aload_n 0, 1) := by decide +kernel
theorem dX6_balances_2 : decode cX6_balances 2 = .ok (.iload_n 1, 1) := by decide +kernel
theorem dX6_balances_3 : decode cX6_balances 3 = .ok (.invokevirtual 114, 3) := by decide +kernel
theorem dX6_balances_6 : decode cX6_balances 6 = .ok (.iconst 1, 1) := by decide +kernel
theorem dX6_balances_7 : decode cX6_balances 7 = .ok (.iconst 1, 1) := by decide +kernel
theorem dX6_balances_8 : decode cX6_balances 8 = .ok (.invokevirtual 103, 3) := by decide +kernel
theorem dX6_balances_11 : decode cX6_balances 11 = .ok (.ifCond .eq 28, 3) := by decide +kernel
theorem dX6_balances_14 : decode cX6_balances 14 = .ok (.aload_n 0, 1) := by decide +kernel
theorem dX6_balances_15 : decode cX6_balances 15 = .ok (.iload_n 1, 1) := by decide +kernel
theorem dX6_balances_16 : decode cX6_balances 16 = .ok (.invokevirtual 110, 3) := by decide +kernel
theorem dX6_balances_19 : decode cX6_balances 19 = .ok (.aload_n 0, 1) := by decide +kernel
theorem dX6_balances_20 : decode cX6_balances 20 = .ok (.getfield 62, 3) := by decide +kernel
theorem dX6_balances_23 : decode cX6_balances 23 = .ok (.iload_n 1, 1) := by decide +kernel
theorem dX6_balances_24 : decode cX6_balances 24 = .ok (.iaload, 1) := by decide +kernel
theorem dX6_balances_25 : decode cX6_balances 25 = .ok (.aload_n 0, 1) := by decide +kernel
theorem dX6_balances_26 : decode cX6_balances 26 = .ok (.getfield 65, 3) := by decide +kernel
theorem dX6_balances_29 : decode cX6_balances 29 = .ok (.iload_n 1, 1) := by decide +kernel
theorem dX6_balances_30 : decode cX6_balances 30 = .ok (.iaload, 1) := by decide +kernel
theorem dX6_balances_31 : decode cX6_balances 31 = .ok (.isub, 1) := by decide +kernel
theorem dX6_balances_32 : decode cX6_balances 32 = .ok (.if_icmp .ne 7, 3) := by decide +kernel
theorem dX6_balances_35 : decode cX6_balances 35 = .ok (.iconst 1, 1) := by decide +kernel
theorem dX6_balances_36 : decode cX6_balances 36 = .ok (.goto 4, 3) := by decide +kernel
theorem dX6_balances_39 : decode cX6_balances 39 = .ok (.iconst 0, 1) := by decide +kernel
theorem dX6_balances_40 : decode cX6_balances 40 = .ok (.ireturn, 1) := by decide +kernel
theorem dX6_follows_0 : decode cX6_follows 0 = .ok (.aload_n 0, 1) := by decide +kernel
theorem dX6_follows_1 : decode cX6_follows 1 = .ok (.getfield 34, 3) := by decide +kernel
theorem dX6_follows_4 : decode cX6_follows 4 = .ok (.iload_n 1, 1) := by decide +kernel
theorem dX6_follows_5 : decode cX6_follows 5 = .ok (.dup2, 1) := by decide +kernel
theorem dX6_follows_6 : decode cX6_follows 6 = .ok (.iaload, 1) := by decide +kernel
theorem dX6_follows_7 : decode cX6_follows 7 = .ok (.aload_n 0, 1) := by decide +kernel
theorem dX6_follows_8 : decode cX6_follows 8 = .ok (.getfield 31, 3) := by decide +kernel
theorem dX6_follows_11 : decode cX6_follows 11 = .ok (.iload_n 1, 1) := by decide +kernel
theorem dX6_follows_12 : decode cX6_follows 12 = .ok (.iaload, 1) := by decide +kernel
theorem dX6_follows_13 : decode cX6_follows 13 = .ok (.aload_n 0, 1) := by decide +kernel
theorem dX6_follows_14 : decode cX6_follows 14 = .ok (.getfield 34, 3) := by decide +kernel
theorem dX6_follows_17 : decode cX6_follows 17 = .ok (.iload_n 1, 1) := by decide +kernel
theorem dX6_follows_18 : decode cX6_follows 18 = .ok (.iaload, 1) := by decide +kernel
theorem dX6_follows_19 : decode cX6_follows 19 = .ok (.isub, 1) := by decide +kernel
theorem dX6_follows_20 : decode cX6_follows 20 = .ok (.bipush 6, 2) := by decide +kernel
theorem dX6_follows_22 : decode cX6_follows 22 = .ok (.idiv, 1) := by decide +kernel
theorem dX6_follows_23 : decode cX6_follows 23 = .ok (.iadd, 1) := by decide +kernel
theorem dX6_follows_24 : decode cX6_follows 24 = .ok (.iastore, 1) := by decide +kernel
theorem dX6_follows_25 : decode cX6_follows 25 = .ok (.return_, 1) := by decide +kernel
set_option maxRecDepth 20000 in
theorem ggX6_cools_X6_follows : GoodIn wsX6_cools wsX6_follows := goodIn_r _ [6, 7, 1, 8, 9, 10, 11, 12, 13, 14, 15, 16, 17, 18, 19, 20, 21, 22, 23, 24, 25, 26, 27, 28, 29, 30, 31, 32, 33, 34, 35, 36, 37, 38, 39] (by decide +kernel) (by decide +kernel)
set_option maxRecDepth 20000 in
theorem gX6_cools_X6_follows : GoodIn wsX6_cools (wsV RX6 125 RX6 yX6_follows wsX6_follows) := goodIn_app (goodIn_of _ (by decide +kernel)) ggX6_cools_X6_follows
theorem dX6_cools_0 : decode cX6_cools 0 = .ok (.aload_n 0, 1) := by decide +kernel
theorem dX6_cools_1 : decode cX6_cools 1 = .ok (.getfield 31, 3) := by decide +kernel
theorem dX6_cools_4 : decode cX6_cools 4 = .ok (.iload_n 1, 1) := by decide +kernel
theorem dX6_cools_5 : decode cX6_cools 5 = .ok (.dup2, 1) := by decide +kernel
theorem dX6_cools_6 : decode cX6_cools 6 = .ok (.iaload, 1) := by decide +kernel
theorem dX6_cools_7 : decode cX6_cools 7 = .ok (.aload_n 0, 1) := by decide +kernel
theorem dX6_cools_8 : decode cX6_cools 8 = .ok (.getfield 31, 3) := by decide +kernel
theorem dX6_cools_11 : decode cX6_cools 11 = .ok (.iload_n 1, 1) := by decide +kernel
theorem dX6_cools_12 : decode cX6_cools 12 = .ok (.iaload, 1) := by decide +kernel
theorem dX6_cools_13 : decode cX6_cools 13 = .ok (.bipush 20, 2) := by decide +kernel
theorem dX6_cools_15 : decode cX6_cools 15 = .ok (.isub, 1) := by decide +kernel
theorem dX6_cools_16 : decode cX6_cools 16 = .ok (.bipush 10, 2) := by decide +kernel
theorem dX6_cools_18 : decode cX6_cools 18 = .ok (.idiv, 1) := by decide +kernel
theorem dX6_cools_19 : decode cX6_cools 19 = .ok (.isub, 1) := by decide +kernel
theorem dX6_cools_20 : decode cX6_cools 20 = .ok (.iastore, 1) := by decide +kernel
theorem dX6_cools_21 : decode cX6_cools 21 = .ok (.aload_n 0, 1) := by decide +kernel
theorem dX6_cools_22 : decode cX6_cools 22 = .ok (.iload_n 1, 1) := by decide +kernel
theorem dX6_cools_23 : decode cX6_cools 23 = .ok (.invokevirtual 125, 3) := by decide +kernel
theorem dX6_cools_26 : decode cX6_cools 26 = .ok (.return_, 1) := by decide +kernel
theorem dX6_scales_0 : decode cX6_scales 0 = .ok (.bipush 8, 2) := by decide +kernel
theorem dX6_scales_2 : decode cX6_scales 2 = .ok (.iload_n 1, 1) := by decide +kernel
theorem dX6_scales_3 : decode cX6_scales 3 = .ok (.imul, 1) := by decide +kernel
theorem dX6_scales_4 : decode cX6_scales 4 = .ok (.istore_n 2, 1) := by decide +kernel
theorem dX6_scales_5 : decode cX6_scales 5 = .ok (.iload_n 2, 1) := by decide +kernel
theorem dX6_scales_6 : decode cX6_scales 6 = .ok (.bipush 8, 2) := by decide +kernel
theorem dX6_scales_8 : decode cX6_scales 8 = .ok (.iload_n 1, 1) := by decide +kernel
theorem dX6_scales_9 : decode cX6_scales 9 = .ok (.imul, 1) := by decide +kernel
theorem dX6_scales_10 : decode cX6_scales 10 = .ok (.bipush 8, 2) := by decide +kernel
theorem dX6_scales_12 : decode cX6_scales 12 = .ok (.iadd, 1) := by decide +kernel
theorem dX6_scales_13 : decode cX6_scales 13 = .ok (.if_icmp .ge 39, 3) := by decide +kernel
theorem dX6_scales_16 : decode cX6_scales 16 = .ok (.aload_n 0, 1) := by decide +kernel
theorem dX6_scales_17 : decode cX6_scales 17 = .ok (.getfield 25, 3) := by decide +kernel
theorem dX6_scales_20 : decode cX6_scales 20 = .ok (.iload_n 2, 1) := by decide +kernel
theorem dX6_scales_21 : decode cX6_scales 21 = .ok (.iaload, 1) := by decide +kernel
theorem dX6_scales_22 : decode cX6_scales 22 = .ok (.iconst 1, 1) := by decide +kernel
theorem dX6_scales_23 : decode cX6_scales 23 = .ok (.if_icmp .le 23, 3) := by decide +kernel
theorem dX6_scales_26 : decode cX6_scales 26 = .ok (.aload_n 0, 1) := by decide +kernel
theorem dX6_scales_27 : decode cX6_scales 27 = .ok (.getfield 25, 3) := by decide +kernel
theorem dX6_scales_30 : decode cX6_scales 30 = .ok (.iload_n 2, 1) := by decide +kernel
theorem dX6_scales_31 : decode cX6_scales 31 = .ok (.dup2, 1) := by decide +kernel
theorem dX6_scales_32 : decode cX6_scales 32 = .ok (.iaload, 1) := by decide +kernel
theorem dX6_scales_33 : decode cX6_scales 33 = .ok (.iconst 1, 1) := by decide +kernel
theorem dX6_scales_34 : decode cX6_scales 34 = .ok (.isub, 1) := by decide +kernel
theorem dX6_scales_35 : decode cX6_scales 35 = .ok (.iastore, 1) := by decide +kernel
theorem dX6_scales_36 : decode cX6_scales 36 = .ok (.aload_n 0, 1) := by decide +kernel
theorem dX6_scales_37 : decode cX6_scales 37 = .ok (.getfield 65, 3) := by decide +kernel
theorem dX6_scales_40 : decode cX6_scales 40 = .ok (.iload_n 1, 1) := by decide +kernel
theorem dX6_scales_41 : decode cX6_scales 41 = .ok (.dup2, 1) := by decide +kernel
theorem dX6_scales_42 : decode cX6_scales 42 = .ok (.iaload, 1) := by decide +kernel
theorem dX6_scales_43 : decode cX6_scales 43 = .ok (.iconst 1, 1) := by decide +kernel
theorem dX6_scales_44 : decode cX6_scales 44 = .ok (.iadd, 1) := by decide +kernel
theorem dX6_scales_45 : decode cX6_scales 45 = .ok (.iastore, 1) := by decide +kernel
theorem dX6_scales_46 : decode cX6_scales 46 = .ok (.iinc 2 1, 3) := by decide +kernel
theorem dX6_scales_49 : decode cX6_scales 49 = .ok (.goto (-44), 3) := by decide +kernel
theorem dX6_scales_52 : decode cX6_scales 52 = .ok (.return_, 1) := by decide +kernel
theorem dX6_softens_0 : decode cX6_softens 0 = .ok (.bipush 8, 2) := by decide +kernel
theorem dX6_softens_2 : decode cX6_softens 2 = .ok (.iload_n 1, 1) := by decide +kernel
theorem dX6_softens_3 : decode cX6_softens 3 = .ok (.imul, 1) := by decide +kernel
theorem dX6_softens_4 : decode cX6_softens 4 = .ok (.istore_n 2, 1) := by decide +kernel
theorem dX6_softens_5 : decode cX6_softens 5 = .ok (.iload_n 2, 1) := by decide +kernel
theorem dX6_softens_6 : decode cX6_softens 6 = .ok (.bipush 8, 2) := by decide +kernel
theorem dX6_softens_8 : decode cX6_softens 8 = .ok (.iload_n 1, 1) := by decide +kernel
theorem dX6_softens_9 : decode cX6_softens 9 = .ok (.imul, 1) := by decide +kernel
theorem dX6_softens_10 : decode cX6_softens 10 = .ok (.bipush 8, 2) := by decide +kernel
theorem dX6_softens_12 : decode cX6_softens 12 = .ok (.iadd, 1) := by decide +kernel
theorem dX6_softens_13 : decode cX6_softens 13 = .ok (.if_icmp .ge 16, 3) := by decide +kernel
theorem dX6_softens_16 : decode cX6_softens 16 = .ok (.aload_n 0, 1) := by decide +kernel
theorem dX6_softens_17 : decode cX6_softens 17 = .ok (.getfield 28, 3) := by decide +kernel
theorem dX6_softens_20 : decode cX6_softens 20 = .ok (.iload_n 2, 1) := by decide +kernel
theorem dX6_softens_21 : decode cX6_softens 21 = .ok (.iconst 0, 1) := by decide +kernel
theorem dX6_softens_22 : decode cX6_softens 22 = .ok (.iastore, 1) := by decide +kernel
theorem dX6_softens_23 : decode cX6_softens 23 = .ok (.iinc 2 1, 3) := by decide +kernel
theorem dX6_softens_26 : decode cX6_softens 26 = .ok (.goto (-21), 3) := by decide +kernel
theorem dX6_softens_29 : decode cX6_softens 29 = .ok (.aload_n 0, 1) := by decide +kernel
theorem dX6_softens_30 : decode cX6_softens 30 = .ok (.getfield 56, 3) := by decide +kernel
theorem dX6_softens_33 : decode cX6_softens 33 = .ok (.iload_n 1, 1) := by decide +kernel
theorem dX6_softens_34 : decode cX6_softens 34 = .ok (.iconst 0, 1) := by decide +kernel
theorem dX6_softens_35 : decode cX6_softens 35 = .ok (.iastore, 1) := by decide +kernel
theorem dX6_softens_36 : decode cX6_softens 36 = .ok (.aload_n 0, 1) := by decide +kernel
theorem dX6_softens_37 : decode cX6_softens 37 = .ok (.getfield 53, 3) := by decide +kernel
theorem dX6_softens_40 : decode cX6_softens 40 = .ok (.iload_n 1, 1) := by decide +kernel
theorem dX6_softens_41 : decode cX6_softens 41 = .ok (.iconst (-1), 1) := by decide +kernel
theorem dX6_softens_42 : decode cX6_softens 42 = .ok (.iastore, 1) := by decide +kernel
theorem dX6_softens_43 : decode cX6_softens 43 = .ok (.return_, 1) := by decide +kernel
set_option maxRecDepth 20000 in
theorem ggX6_heat_X6_isBillet : GoodIn wsX6_heat wsX6_isBillet := goodIn_r _ [10, 11, 12, 13, 9, 14, 43, 44, 45, 46, 47, 48, 49, 50, 51, 52, 53, 54, 55, 56, 57, 58, 59, 60, 61, 62, 63, 64, 65, 66, 67, 68, 69, 70, 71, 72, 73, 74] (by decide +kernel) (by decide +kernel)
set_option maxRecDepth 20000 in
theorem gX6_heat_X6_isBillet : GoodIn wsX6_heat (wsV RX6 114 RX6 yX6_isBillet wsX6_isBillet) := goodIn_app (goodIn_of _ (by decide +kernel)) ggX6_heat_X6_isBillet
set_option maxRecDepth 20000 in
theorem ggX6_heat_X6_in : GoodIn wsX6_heat wsX6_in := goodIn_r _ [14] (by decide +kernel) (by decide +kernel)
set_option maxRecDepth 20000 in
theorem gX6_heat_X6_in : GoodIn wsX6_heat (va_wsS RX6 96 yX6_in wsX6_in) := goodIn_app (goodIn_of _ (by decide +kernel)) ggX6_heat_X6_in
set_option maxRecDepth 20000 in
theorem ggX6_heat_X6_steelIs : GoodIn wsX6_heat wsX6_steelIs := goodIn_r _ [18, 19, 20, 43, 44, 45, 46, 47, 48, 49, 50, 51, 52, 53, 54, 55, 56, 57, 58, 59, 60, 61, 62, 63, 64, 65, 66, 67, 68, 69, 70, 71, 72, 73, 74] (by decide +kernel) (by decide +kernel)
set_option maxRecDepth 20000 in
theorem gX6_heat_X6_steelIs : GoodIn wsX6_heat (wsV RX6 129 RX6 yX6_steelIs wsX6_steelIs) := goodIn_app (goodIn_of _ (by decide +kernel)) ggX6_heat_X6_steelIs
set_option maxRecDepth 20000 in
theorem ggX6_heat_X6_goes : GoodIn wsX6_heat wsX6_goes := goodIn_r _ [24, 25, 43, 44, 45, 46, 47, 48, 49, 50, 51, 52, 53, 54, 55, 56, 57, 58, 59, 60, 61, 62, 63, 64, 65, 66, 67, 68, 69, 70, 71, 72, 73, 74] (by decide +kernel) (by decide +kernel)
set_option maxRecDepth 20000 in
theorem gX6_heat_X6_goes : GoodIn wsX6_heat (wsV RX6 103 RX6 yX6_goes wsX6_goes) := goodIn_app (goodIn_of _ (by decide +kernel)) ggX6_heat_X6_goes
set_option maxRecDepth 20000 in
theorem ggX6_heat_X6_softens : GoodIn wsX6_heat wsX6_softens := goodIn_r _ [29, 30, 31, 32, 43, 44, 45, 46, 47, 48, 49, 50, 51, 52, 53, 54, 55, 56, 57, 58, 59, 60, 61, 62, 63, 64, 65, 66, 67, 68, 69, 70, 71, 72, 73, 74] (by decide +kernel) (by decide +kernel)
set_option maxRecDepth 20000 in
theorem gX6_heat_X6_softens : GoodIn wsX6_heat (wsV RX6 132 RX6 yX6_softens wsX6_softens) := goodIn_app (goodIn_of _ (by decide +kernel)) ggX6_heat_X6_softens
set_option maxRecDepth 20000 in
theorem ggX6_heat_X6_follows : GoodIn wsX6_heat wsX6_follows := goodIn_r _ [36, 5, 3, 43, 44, 45, 46, 47, 48, 49, 50, 51, 52, 53, 54, 55, 56, 57, 58, 59, 60, 61, 62, 63, 64, 65, 66, 67, 68, 69, 70, 71, 72, 73, 74] (by decide +kernel) (by decide +kernel)
set_option maxRecDepth 20000 in
theorem gX6_heat_X6_follows : GoodIn wsX6_heat (wsV RX6 125 RX6 yX6_follows wsX6_follows) := goodIn_app (goodIn_of _ (by decide +kernel)) ggX6_heat_X6_follows
set_option maxRecDepth 20000 in
theorem ggX6_heat_X6_scales : GoodIn wsX6_heat wsX6_scales := goodIn_r _ [40, 41, 42, 43, 44, 45, 46, 47, 48, 49, 50, 51, 52, 53, 54, 55, 56, 57, 58, 59, 60, 61, 62, 63, 64, 65, 66, 67, 68, 69, 70, 71, 72, 73, 74] (by decide +kernel) (by decide +kernel)
set_option maxRecDepth 20000 in
theorem gX6_heat_X6_scales : GoodIn wsX6_heat (wsV RX6 135 RX6 yX6_scales wsX6_scales) := goodIn_app (goodIn_of _ (by decide +kernel)) ggX6_heat_X6_scales
theorem dX6_heat_0 : decode cX6_heat 0 = .ok (.aload_n 0, 1) := by decide +kernel
theorem dX6_heat_1 : decode cX6_heat 1 = .ok (.iload_n 1, 1) := by decide +kernel
theorem dX6_heat_2 : decode cX6_heat 2 = .ok (.invokevirtual 114, 3) := by decide +kernel
theorem dX6_heat_5 : decode cX6_heat 5 = .ok (.istore 4, 2) := by decide +kernel
theorem dX6_heat_7 : decode cX6_heat 7 = .ok (.aload_n 0, 1) := by decide +kernel
theorem dX6_heat_8 : decode cX6_heat 8 = .ok (.iload 4, 2) := by decide +kernel
theorem dX6_heat_10 : decode cX6_heat 10 = .ok (.iload_n 2, 1) := by decide +kernel
theorem dX6_heat_11 : decode cX6_heat 11 = .ok (.sipush 200, 3) := by decide +kernel
theorem dX6_heat_14 : decode cX6_heat 14 = .ok (.sipush 1300, 3) := by decide +kernel
theorem dX6_heat_17 : decode cX6_heat 17 = .ok (.invokestatic 96, 3) := by decide +kernel
theorem dX6_heat_20 : decode cX6_heat 20 = .ok (.ifCond .eq 18, 3) := by decide +kernel
theorem dX6_heat_23 : decode cX6_heat 23 = .ok (.iload_n 3, 1) := by decide +kernel
theorem dX6_heat_24 : decode cX6_heat 24 = .ok (.iconst 1, 1) := by decide +kernel
theorem dX6_heat_25 : decode cX6_heat 25 = .ok (.sipush 200, 3) := by decide +kernel
theorem dX6_heat_28 : decode cX6_heat 28 = .ok (.invokestatic 96, 3) := by decide +kernel
theorem dX6_heat_31 : decode cX6_heat 31 = .ok (.ifCond .eq 7, 3) := by decide +kernel
theorem dX6_heat_34 : decode cX6_heat 34 = .ok (.iconst 1, 1) := by decide +kernel
theorem dX6_heat_35 : decode cX6_heat 35 = .ok (.goto 4, 3) := by decide +kernel
theorem dX6_heat_38 : decode cX6_heat 38 = .ok (.iconst 0, 1) := by decide +kernel
theorem dX6_heat_39 : decode cX6_heat 39 = .ok (.iload 4, 2) := by decide +kernel
theorem dX6_heat_41 : decode cX6_heat 41 = .ok (.ifCond .eq 44, 3) := by decide +kernel
theorem dX6_heat_44 : decode cX6_heat 44 = .ok (.aload_n 0, 1) := by decide +kernel
theorem dX6_heat_45 : decode cX6_heat 45 = .ok (.getfield 40, 3) := by decide +kernel
theorem dX6_heat_48 : decode cX6_heat 48 = .ok (.iload 4, 2) := by decide +kernel
theorem dX6_heat_50 : decode cX6_heat 50 = .ok (.ifCond .eq 7, 3) := by decide +kernel
theorem dX6_heat_53 : decode cX6_heat 53 = .ok (.iload_n 1, 1) := by decide +kernel
theorem dX6_heat_54 : decode cX6_heat 54 = .ok (.goto 4, 3) := by decide +kernel
theorem dX6_heat_57 : decode cX6_heat 57 = .ok (.iconst 0, 1) := by decide +kernel
theorem dX6_heat_58 : decode cX6_heat 58 = .ok (.iaload, 1) := by decide +kernel
theorem dX6_heat_59 : decode cX6_heat 59 = .ok (.aload_n 0, 1) := by decide +kernel
theorem dX6_heat_60 : decode cX6_heat 60 = .ok (.getfield 7, 3) := by decide +kernel
theorem dX6_heat_63 : decode cX6_heat 63 = .ok (.iload 4, 2) := by decide +kernel
theorem dX6_heat_65 : decode cX6_heat 65 = .ok (.ifCond .eq 11, 3) := by decide +kernel
theorem dX6_heat_68 : decode cX6_heat 68 = .ok (.aload_n 0, 1) := by decide +kernel
theorem dX6_heat_69 : decode cX6_heat 69 = .ok (.iload_n 1, 1) := by decide +kernel
theorem dX6_heat_70 : decode cX6_heat 70 = .ok (.invokevirtual 129, 3) := by decide +kernel
theorem dX6_heat_73 : decode cX6_heat 73 = .ok (.goto 4, 3) := by decide +kernel
theorem dX6_heat_76 : decode cX6_heat 76 = .ok (.iconst 0, 1) := by decide +kernel
theorem dX6_heat_77 : decode cX6_heat 77 = .ok (.iaload, 1) := by decide +kernel
theorem dX6_heat_78 : decode cX6_heat 78 = .ok (.if_icmp .ge 7, 3) := by decide +kernel
theorem dX6_heat_81 : decode cX6_heat 81 = .ok (.iconst 1, 1) := by decide +kernel
theorem dX6_heat_82 : decode cX6_heat 82 = .ok (.goto 4, 3) := by decide +kernel
theorem dX6_heat_85 : decode cX6_heat 85 = .ok (.iconst 0, 1) := by decide +kernel
theorem dX6_heat_86 : decode cX6_heat 86 = .ok (.invokevirtual 103, 3) := by decide +kernel
theorem dX6_heat_89 : decode cX6_heat 89 = .ok (.ifCond .ne 5, 3) := by decide +kernel
theorem dX6_heat_92 : decode cX6_heat 92 = .ok (.iconst 0, 1) := by decide +kernel
theorem dX6_heat_93 : decode cX6_heat 93 = .ok (.ireturn, 1) := by decide +kernel
theorem dX6_heat_94 : decode cX6_heat 94 = .ok (.aload_n 0, 1) := by decide +kernel
theorem dX6_heat_95 : decode cX6_heat 95 = .ok (.getfield 40, 3) := by decide +kernel
theorem dX6_heat_98 : decode cX6_heat 98 = .ok (.iload_n 1, 1) := by decide +kernel
theorem dX6_heat_99 : decode cX6_heat 99 = .ok (.dup2, 1) := by decide +kernel
theorem dX6_heat_100 : decode cX6_heat 100 = .ok (.iaload, 1) := by decide +kernel
theorem dX6_heat_101 : decode cX6_heat 101 = .ok (.iconst 1, 1) := by decide +kernel
theorem dX6_heat_102 : decode cX6_heat 102 = .ok (.iadd, 1) := by decide +kernel
theorem dX6_heat_103 : decode cX6_heat 103 = .ok (.iastore, 1) := by decide +kernel
theorem dX6_heat_104 : decode cX6_heat 104 = .ok (.aload_n 0, 1) := by decide +kernel
theorem dX6_heat_105 : decode cX6_heat 105 = .ok (.iload_n 1, 1) := by decide +kernel
theorem dX6_heat_106 : decode cX6_heat 106 = .ok (.invokevirtual 132, 3) := by decide +kernel
theorem dX6_heat_109 : decode cX6_heat 109 = .ok (.iconst 1, 1) := by decide +kernel
theorem dX6_heat_110 : decode cX6_heat 110 = .ok (.istore 5, 2) := by decide +kernel
theorem dX6_heat_112 : decode cX6_heat 112 = .ok (.iload 5, 2) := by decide +kernel
theorem dX6_heat_114 : decode cX6_heat 114 = .ok (.iload_n 3, 1) := by decide +kernel
theorem dX6_heat_115 : decode cX6_heat 115 = .ok (.if_icmp .gt 103, 3) := by decide +kernel
theorem dX6_heat_118 : decode cX6_heat 118 = .ok (.aload_n 0, 1) := by decide +kernel
theorem dX6_heat_119 : decode cX6_heat 119 = .ok (.getfield 31, 3) := by decide +kernel
theorem dX6_heat_122 : decode cX6_heat 122 = .ok (.iload_n 1, 1) := by decide +kernel
theorem dX6_heat_123 : decode cX6_heat 123 = .ok (.dup2, 1) := by decide +kernel
theorem dX6_heat_124 : decode cX6_heat 124 = .ok (.iaload, 1) := by decide +kernel
theorem dX6_heat_125 : decode cX6_heat 125 = .ok (.iload_n 2, 1) := by decide +kernel
theorem dX6_heat_126 : decode cX6_heat 126 = .ok (.aload_n 0, 1) := by decide +kernel
theorem dX6_heat_127 : decode cX6_heat 127 = .ok (.getfield 31, 3) := by decide +kernel
theorem dX6_heat_130 : decode cX6_heat 130 = .ok (.iload_n 1, 1) := by decide +kernel
theorem dX6_heat_131 : decode cX6_heat 131 = .ok (.iaload, 1) := by decide +kernel
theorem dX6_heat_132 : decode cX6_heat 132 = .ok (.isub, 1) := by decide +kernel
theorem dX6_heat_133 : decode cX6_heat 133 = .ok (.iconst 4, 1) := by decide +kernel
theorem dX6_heat_134 : decode cX6_heat 134 = .ok (.idiv, 1) := by decide +kernel
theorem dX6_heat_135 : decode cX6_heat 135 = .ok (.iadd, 1) := by decide +kernel
theorem dX6_heat_136 : decode cX6_heat 136 = .ok (.iastore, 1) := by decide +kernel
theorem dX6_heat_137 : decode cX6_heat 137 = .ok (.aload_n 0, 1) := by decide +kernel
theorem dX6_heat_138 : decode cX6_heat 138 = .ok (.iload_n 1, 1) := by decide +kernel
theorem dX6_heat_139 : decode cX6_heat 139 = .ok (.invokevirtual 125, 3) := by decide +kernel
theorem dX6_heat_142 : decode cX6_heat 142 = .ok (.iload 5, 2) := by decide +kernel
theorem dX6_heat_144 : decode cX6_heat 144 = .ok (.iconst 5, 1) := by decide +kernel
theorem dX6_heat_145 : decode cX6_heat 145 = .ok (.irem, 1) := by decide +kernel
theorem dX6_heat_146 : decode cX6_heat 146 = .ok (.ifCond .ne 20, 3) := by decide +kernel
theorem dX6_heat_149 : decode cX6_heat 149 = .ok (.aload_n 0, 1) := by decide +kernel
theorem dX6_heat_150 : decode cX6_heat 150 = .ok (.getfield 31, 3) := by decide +kernel
theorem dX6_heat_153 : decode cX6_heat 153 = .ok (.iload_n 1, 1) := by decide +kernel
theorem dX6_heat_154 : decode cX6_heat 154 = .ok (.iaload, 1) := by decide +kernel
theorem dX6_heat_155 : decode cX6_heat 155 = .ok (.sipush 800, 3) := by decide +kernel
theorem dX6_heat_158 : decode cX6_heat 158 = .ok (.if_icmp .lt 8, 3) := by decide +kernel
theorem dX6_heat_161 : decode cX6_heat 161 = .ok (.aload_n 0, 1) := by decide +kernel
theorem dX6_heat_162 : decode cX6_heat 162 = .ok (.iload_n 1, 1) := by decide +kernel
theorem dX6_heat_163 : decode cX6_heat 163 = .ok (.invokevirtual 135, 3) := by decide +kernel
theorem dX6_heat_166 : decode cX6_heat 166 = .ok (.aload_n 0, 1) := by decide +kernel
theorem dX6_heat_167 : decode cX6_heat 167 = .ok (.getfield 37, 3) := by decide +kernel
theorem dX6_heat_170 : decode cX6_heat 170 = .ok (.iload_n 1, 1) := by decide +kernel
theorem dX6_heat_171 : decode cX6_heat 171 = .ok (.dup2, 1) := by decide +kernel
theorem dX6_heat_172 : decode cX6_heat 172 = .ok (.iaload, 1) := by decide +kernel
theorem dX6_heat_173 : decode cX6_heat 173 = .ok (.iload 5, 2) := by decide +kernel
theorem dX6_heat_175 : decode cX6_heat 175 = .ok (.bipush 10, 2) := by decide +kernel
theorem dX6_heat_177 : decode cX6_heat 177 = .ok (.irem, 1) := by decide +kernel
theorem dX6_heat_178 : decode cX6_heat 178 = .ok (.ifCond .ne 31, 3) := by decide +kernel
theorem dX6_heat_181 : decode cX6_heat 181 = .ok (.aload_n 0, 1) := by decide +kernel
theorem dX6_heat_182 : decode cX6_heat 182 = .ok (.getfield 34, 3) := by decide +kernel
theorem dX6_heat_185 : decode cX6_heat 185 = .ok (.iload_n 1, 1) := by decide +kernel
theorem dX6_heat_186 : decode cX6_heat 186 = .ok (.iaload, 1) := by decide +kernel
theorem dX6_heat_187 : decode cX6_heat 187 = .ok (.sipush 900, 3) := by decide +kernel
theorem dX6_heat_190 : decode cX6_heat 190 = .ok (.if_icmp .lt 19, 3) := by decide +kernel
theorem dX6_heat_193 : decode cX6_heat 193 = .ok (.aload_n 0, 1) := by decide +kernel
theorem dX6_heat_194 : decode cX6_heat 194 = .ok (.getfield 37, 3) := by decide +kernel
theorem dX6_heat_197 : decode cX6_heat 197 = .ok (.iload_n 1, 1) := by decide +kernel
theorem dX6_heat_198 : decode cX6_heat 198 = .ok (.iaload, 1) := by decide +kernel
theorem dX6_heat_199 : decode cX6_heat 199 = .ok (.sipush 200, 3) := by decide +kernel
theorem dX6_heat_202 : decode cX6_heat 202 = .ok (.if_icmp .ge 7, 3) := by decide +kernel
theorem dX6_heat_205 : decode cX6_heat 205 = .ok (.iconst 1, 1) := by decide +kernel
theorem dX6_heat_206 : decode cX6_heat 206 = .ok (.goto 4, 3) := by decide +kernel
theorem dX6_heat_209 : decode cX6_heat 209 = .ok (.iconst 0, 1) := by decide +kernel
theorem dX6_heat_210 : decode cX6_heat 210 = .ok (.iadd, 1) := by decide +kernel
theorem dX6_heat_211 : decode cX6_heat 211 = .ok (.iastore, 1) := by decide +kernel
theorem dX6_heat_212 : decode cX6_heat 212 = .ok (.iinc 5 1, 3) := by decide +kernel
theorem dX6_heat_215 : decode cX6_heat 215 = .ok (.goto (-103), 3) := by decide +kernel
theorem dX6_heat_218 : decode cX6_heat 218 = .ok (.aload_n 0, 1) := by decide +kernel
theorem dX6_heat_219 : decode cX6_heat 219 = .ok (.getfield 34, 3) := by decide +kernel
theorem dX6_heat_222 : decode cX6_heat 222 = .ok (.iload_n 1, 1) := by decide +kernel
theorem dX6_heat_223 : decode cX6_heat 223 = .ok (.iaload, 1) := by decide +kernel
theorem dX6_heat_224 : decode cX6_heat 224 = .ok (.ireturn, 1) := by decide +kernel
set_option maxRecDepth 20000 in
theorem ggX6_cool_X6_isBillet : GoodIn wsX6_cool wsX6_isBillet := goodIn_r _ [6, 7, 8, 9, 5, 10, 25, 26, 27, 28, 29, 30, 31, 32, 33, 34, 35, 36, 37, 38, 39, 40, 41, 42, 43, 44, 45, 46, 47, 48, 49, 50, 51, 52, 53, 54, 55, 56] (by decide +kernel) (by decide +kernel)
set_option maxRecDepth 20000 in
theorem gX6_cool_X6_isBillet : GoodIn wsX6_cool (wsV RX6 114 RX6 yX6_isBillet wsX6_isBillet) := goodIn_app (goodIn_of _ (by decide +kernel)) ggX6_cool_X6_isBillet
set_option maxRecDepth 20000 in
theorem ggX6_cool_X6_in : GoodIn wsX6_cool wsX6_in := goodIn_r _ [10] (by decide +kernel) (by decide +kernel)
set_option maxRecDepth 20000 in
theorem gX6_cool_X6_in : GoodIn wsX6_cool (va_wsS RX6 96 yX6_in wsX6_in) := goodIn_app (goodIn_of _ (by decide +kernel)) ggX6_cool_X6_in
set_option maxRecDepth 20000 in
theorem ggX6_cool_X6_goes : GoodIn wsX6_cool wsX6_goes := goodIn_r _ [14, 15, 25, 26, 27, 28, 29, 30, 31, 32, 33, 34, 35, 36, 37, 38, 39, 40, 41, 42, 43, 44, 45, 46, 47, 48, 49, 50, 51, 52, 53, 54, 55, 56] (by decide +kernel) (by decide +kernel)
set_option maxRecDepth 20000 in
theorem gX6_cool_X6_goes : GoodIn wsX6_cool (wsV RX6 103 RX6 yX6_goes wsX6_goes) := goodIn_app (goodIn_of _ (by decide +kernel)) ggX6_cool_X6_goes
set_option maxRecDepth 20000 in
theorem ggX6_cool_X6_cools : GoodIn wsX6_cool wsX6_cools := goodIn_r _ [19, 20, 21, 22, 23, 5, 24, 1, 25, 26, 27, 28, 29, 30, 31, 32, 33, 34, 35, 36, 37, 38, 39, 40, 41, 42, 43, 44, 45, 46, 47, 48, 49, 50, 51, 52, 53, 54, 55, 56] (by decide +kernel) (by decide +kernel)
set_option maxRecDepth 20000 in
theorem gX6_cool_X6_cools : GoodIn wsX6_cool (wsV RX6 138 RX6 yX6_cools wsX6_cools) := goodIn_app (goodIn_of _ (by decide +kernel)) ggX6_cool_X6_cools
theorem dX6_cool_0 : decode cX6_cool 0 = .ok (.aload_n 0, 1) := by decide +kernel
theorem dX6_cool_1 : decode cX6_cool 1 = .ok (.aload_n 0, 1) := by decide +kernel
theorem dX6_cool_2 : decode cX6_cool 2 = .ok (.iload_n 1, 1) := by decide +kernel
theorem dX6_cool_3 : decode cX6_cool 3 = .ok (.invokevirtual 114, 3) := by decide +kernel
theorem dX6_cool_6 : decode cX6_cool 6 = .ok (.iload_n 2, 1) := by decide +kernel
theorem dX6_cool_7 : decode cX6_cool 7 = .ok (.iconst 1, 1) := by decide +kernel
theorem dX6_cool_8 : decode cX6_cool 8 = .ok (.sipush 200, 3) := by decide +kernel
theorem dX6_cool_11 : decode cX6_cool 11 = .ok (.invokestatic 96, 3) := by decide +kernel
theorem dX6_cool_14 : decode cX6_cool 14 = .ok (.iconst 1, 1) := by decide +kernel
theorem dX6_cool_15 : decode cX6_cool 15 = .ok (.invokevirtual 103, 3) := by decide +kernel
theorem dX6_cool_18 : decode cX6_cool 18 = .ok (.ifCond .ne 5, 3) := by decide +kernel
theorem dX6_cool_21 : decode cX6_cool 21 = .ok (.iconst 0, 1) := by decide +kernel
theorem dX6_cool_22 : decode cX6_cool 22 = .ok (.ireturn, 1) := by decide +kernel
theorem dX6_cool_23 : decode cX6_cool 23 = .ok (.iconst 0, 1) := by decide +kernel
theorem dX6_cool_24 : decode cX6_cool 24 = .ok (.istore_n 3, 1) := by decide +kernel
theorem dX6_cool_25 : decode cX6_cool 25 = .ok (.iload_n 3, 1) := by decide +kernel
theorem dX6_cool_26 : decode cX6_cool 26 = .ok (.iload_n 2, 1) := by decide +kernel
theorem dX6_cool_27 : decode cX6_cool 27 = .ok (.if_icmp .ge 14, 3) := by decide +kernel
theorem dX6_cool_30 : decode cX6_cool 30 = .ok (.aload_n 0, 1) := by decide +kernel
theorem dX6_cool_31 : decode cX6_cool 31 = .ok (.iload_n 1, 1) := by decide +kernel
theorem dX6_cool_32 : decode cX6_cool 32 = .ok (.invokevirtual 138, 3) := by decide +kernel
theorem dX6_cool_35 : decode cX6_cool 35 = .ok (.iinc 3 1, 3) := by decide +kernel
theorem dX6_cool_38 : decode cX6_cool 38 = .ok (.goto (-13), 3) := by decide +kernel
theorem dX6_cool_41 : decode cX6_cool 41 = .ok (.aload_n 0, 1) := by decide +kernel
theorem dX6_cool_42 : decode cX6_cool 42 = .ok (.getfield 34, 3) := by decide +kernel
theorem dX6_cool_45 : decode cX6_cool 45 = .ok (.iload_n 1, 1) := by decide +kernel
theorem dX6_cool_46 : decode cX6_cool 46 = .ok (.iaload, 1) := by decide +kernel
theorem dX6_cool_47 : decode cX6_cool 47 = .ok (.ireturn, 1) := by decide +kernel
theorem dX6_neighbour_0 : decode cX6_neighbour 0 = .ok (.iload_n 0, 1) := by decide +kernel
theorem dX6_neighbour_1 : decode cX6_neighbour 1 = .ok (.bipush 7, 2) := by decide +kernel
theorem dX6_neighbour_3 : decode cX6_neighbour 3 = .ok (.if_icmp .ne 9, 3) := by decide +kernel
theorem dX6_neighbour_6 : decode cX6_neighbour 6 = .ok (.iload_n 0, 1) := by decide +kernel
theorem dX6_neighbour_7 : decode cX6_neighbour 7 = .ok (.iconst 1, 1) := by decide +kernel
theorem dX6_neighbour_8 : decode cX6_neighbour 8 = .ok (.isub, 1) := by decide +kernel
theorem dX6_neighbour_9 : decode cX6_neighbour 9 = .ok (.goto 6, 3) := by decide +kernel
theorem dX6_neighbour_12 : decode cX6_neighbour 12 = .ok (.iload_n 0, 1) := by decide +kernel
theorem dX6_neighbour_13 : decode cX6_neighbour 13 = .ok (.iconst 1, 1) := by decide +kernel
theorem dX6_neighbour_14 : decode cX6_neighbour 14 = .ok (.iadd, 1) := by decide +kernel
theorem dX6_neighbour_15 : decode cX6_neighbour 15 = .ok (.ireturn, 1) := by decide +kernel
set_option maxRecDepth 20000 in
theorem ggX6_blow_X6_isBillet : GoodIn wsX6_blow wsX6_isBillet := goodIn_r _ [10, 11, 12, 13, 9, 14, 38, 39, 40, 41, 42, 43, 44, 45, 46, 47, 48, 49, 50, 51, 52, 53, 54, 55, 56, 57, 58, 59, 60, 61, 62, 63, 64, 65, 66, 67, 68, 69] (by decide +kernel) (by decide +kernel)
set_option maxRecDepth 20000 in
theorem gX6_blow_X6_isBillet : GoodIn wsX6_blow (wsV RX6 114 RX6 yX6_isBillet wsX6_isBillet) := goodIn_app (goodIn_of _ (by decide +kernel)) ggX6_blow_X6_isBillet
set_option maxRecDepth 20000 in
theorem ggX6_blow_X6_isSection : GoodIn wsX6_blow wsX6_isSection := goodIn_r _ [17, 12, 13, 9, 14] (by decide +kernel) (by decide +kernel)
set_option maxRecDepth 20000 in
theorem gX6_blow_X6_isSection : GoodIn wsX6_blow (va_wsS RX6 122 yX6_isSection wsX6_isSection) := goodIn_app (goodIn_of _ (by decide +kernel)) ggX6_blow_X6_isSection
set_option maxRecDepth 20000 in
theorem ggX6_blow_X6_in : GoodIn wsX6_blow wsX6_in := goodIn_r _ [14] (by decide +kernel) (by decide +kernel)
set_option maxRecDepth 20000 in
theorem gX6_blow_X6_in : GoodIn wsX6_blow (va_wsS RX6 96 yX6_in wsX6_in) := goodIn_app (goodIn_of _ (by decide +kernel)) ggX6_blow_X6_in
set_option maxRecDepth 20000 in
theorem ggX6_blow_X6_goes : GoodIn wsX6_blow wsX6_goes := goodIn_r _ [21, 22, 38, 39, 40, 41, 42, 43, 44, 45, 46, 47, 48, 49, 50, 51, 52, 53, 54, 55, 56, 57, 58, 59, 60, 61, 62, 63, 64, 65, 66, 67, 68, 69] (by decide +kernel) (by decide +kernel)
set_option maxRecDepth 20000 in
theorem gX6_blow_X6_goes : GoodIn wsX6_blow (wsV RX6 103 RX6 yX6_goes wsX6_goes) := goodIn_app (goodIn_of _ (by decide +kernel)) ggX6_blow_X6_goes
set_option maxRecDepth 20000 in
theorem ggX6_blow_X6_neighbour : GoodIn wsX6_blow wsX6_neighbour := goodIn_r _ [25] (by decide +kernel) (by decide +kernel)
set_option maxRecDepth 20000 in
theorem gX6_blow_X6_neighbour : GoodIn wsX6_blow (va_wsS RX6 141 yX6_neighbour wsX6_neighbour) := goodIn_app (goodIn_of _ (by decide +kernel)) ggX6_blow_X6_neighbour
set_option maxRecDepth 20000 in
theorem ggX6_blow_X6_least : GoodIn wsX6_blow wsX6_least := goodIn_r _ [28] (by decide +kernel) (by decide +kernel)
set_option maxRecDepth 20000 in
theorem gX6_blow_X6_least : GoodIn wsX6_blow (va_wsS RX6 144 yX6_least wsX6_least) := goodIn_app (goodIn_of _ (by decide +kernel)) ggX6_blow_X6_least
set_option maxRecDepth 20000 in
theorem ggX6_blow_X6_cools : GoodIn wsX6_blow wsX6_cools := goodIn_r _ [32, 33, 34, 35, 36, 9, 37, 2, 38, 39, 40, 41, 42, 43, 44, 45, 46, 47, 48, 49, 50, 51, 52, 53, 54, 55, 56, 57, 58, 59, 60, 61, 62, 63, 64, 65, 66, 67, 68, 69] (by decide +kernel) (by decide +kernel)
set_option maxRecDepth 20000 in
theorem gX6_blow_X6_cools : GoodIn wsX6_blow (wsV RX6 138 RX6 yX6_cools wsX6_cools) := goodIn_app (goodIn_of _ (by decide +kernel)) ggX6_blow_X6_cools
theorem dX6_blow_0 : decode cX6_blow 0 = .ok (.aload_n 0, 1) := by decide +kernel
theorem dX6_blow_1 : decode cX6_blow 1 = .ok (.iload_n 1, 1) := by decide +kernel
theorem dX6_blow_2 : decode cX6_blow 2 = .ok (.invokevirtual 114, 3) := by decide +kernel
theorem dX6_blow_5 : decode cX6_blow 5 = .ok (.ifCond .eq 14, 3) := by decide +kernel
theorem dX6_blow_8 : decode cX6_blow 8 = .ok (.iload_n 2, 1) := by decide +kernel
theorem dX6_blow_9 : decode cX6_blow 9 = .ok (.invokestatic 122, 3) := by decide +kernel
theorem dX6_blow_12 : decode cX6_blow 12 = .ok (.ifCond .eq 7, 3) := by decide +kernel
theorem dX6_blow_15 : decode cX6_blow 15 = .ok (.iconst 1, 1) := by decide +kernel
theorem dX6_blow_16 : decode cX6_blow 16 = .ok (.goto 4, 3) := by decide +kernel
theorem dX6_blow_19 : decode cX6_blow 19 = .ok (.iconst 0, 1) := by decide +kernel
theorem dX6_blow_20 : decode cX6_blow 20 = .ok (.istore 5, 2) := by decide +kernel
theorem dX6_blow_22 : decode cX6_blow 22 = .ok (.aload_n 0, 1) := by decide +kernel
theorem dX6_blow_23 : decode cX6_blow 23 = .ok (.iload 5, 2) := by decide +kernel
theorem dX6_blow_25 : decode cX6_blow 25 = .ok (.iload_n 3, 1) := by decide +kernel
theorem dX6_blow_26 : decode cX6_blow 26 = .ok (.iconst 0, 1) := by decide +kernel
theorem dX6_blow_27 : decode cX6_blow 27 = .ok (.iconst 1, 1) := by decide +kernel
theorem dX6_blow_28 : decode cX6_blow 28 = .ok (.invokestatic 96, 3) := by decide +kernel
theorem dX6_blow_31 : decode cX6_blow 31 = .ok (.ifCond .eq 18, 3) := by decide +kernel
theorem dX6_blow_34 : decode cX6_blow 34 = .ok (.iload 4, 2) := by decide +kernel
theorem dX6_blow_36 : decode cX6_blow 36 = .ok (.iconst 1, 1) := by decide +kernel
theorem dX6_blow_37 : decode cX6_blow 37 = .ok (.bipush 20, 2) := by decide +kernel
theorem dX6_blow_39 : decode cX6_blow 39 = .ok (.invokestatic 96, 3) := by decide +kernel
theorem dX6_blow_42 : decode cX6_blow 42 = .ok (.ifCond .eq 7, 3) := by decide +kernel
theorem dX6_blow_45 : decode cX6_blow 45 = .ok (.iconst 1, 1) := by decide +kernel
theorem dX6_blow_46 : decode cX6_blow 46 = .ok (.goto 4, 3) := by decide +kernel
theorem dX6_blow_49 : decode cX6_blow 49 = .ok (.iconst 0, 1) := by decide +kernel
theorem dX6_blow_50 : decode cX6_blow 50 = .ok (.iload 5, 2) := by decide +kernel
theorem dX6_blow_52 : decode cX6_blow 52 = .ok (.ifCond .eq 25, 3) := by decide +kernel
theorem dX6_blow_55 : decode cX6_blow 55 = .ok (.aload_n 0, 1) := by decide +kernel
theorem dX6_blow_56 : decode cX6_blow 56 = .ok (.getfield 46, 3) := by decide +kernel
theorem dX6_blow_59 : decode cX6_blow 59 = .ok (.iload 5, 2) := by decide +kernel
theorem dX6_blow_61 : decode cX6_blow 61 = .ok (.ifCond .eq 7, 3) := by decide +kernel
theorem dX6_blow_64 : decode cX6_blow 64 = .ok (.iload_n 1, 1) := by decide +kernel
theorem dX6_blow_65 : decode cX6_blow 65 = .ok (.goto 4, 3) := by decide +kernel
theorem dX6_blow_68 : decode cX6_blow 68 = .ok (.iconst 0, 1) := by decide +kernel
theorem dX6_blow_69 : decode cX6_blow 69 = .ok (.baload, 1) := by decide +kernel
theorem dX6_blow_70 : decode cX6_blow 70 = .ok (.ifCond .ne 7, 3) := by decide +kernel
theorem dX6_blow_73 : decode cX6_blow 73 = .ok (.iconst 1, 1) := by decide +kernel
theorem dX6_blow_74 : decode cX6_blow 74 = .ok (.goto 4, 3) := by decide +kernel
theorem dX6_blow_77 : decode cX6_blow 77 = .ok (.iconst 0, 1) := by decide +kernel
theorem dX6_blow_78 : decode cX6_blow 78 = .ok (.invokevirtual 103, 3) := by decide +kernel
theorem dX6_blow_81 : decode cX6_blow 81 = .ok (.ifCond .ne 5, 3) := by decide +kernel
theorem dX6_blow_84 : decode cX6_blow 84 = .ok (.iconst 0, 1) := by decide +kernel
theorem dX6_blow_85 : decode cX6_blow 85 = .ok (.ireturn, 1) := by decide +kernel
theorem dX6_blow_86 : decode cX6_blow 86 = .ok (.aload_n 0, 1) := by decide +kernel
theorem dX6_blow_87 : decode cX6_blow 87 = .ok (.getfield 34, 3) := by decide +kernel
theorem dX6_blow_90 : decode cX6_blow 90 = .ok (.iload_n 1, 1) := by decide +kernel
theorem dX6_blow_91 : decode cX6_blow 91 = .ok (.iaload, 1) := by decide +kernel
theorem dX6_blow_92 : decode cX6_blow 92 = .ok (.sipush 700, 3) := by decide +kernel
theorem dX6_blow_95 : decode cX6_blow 95 = .ok (.if_icmp .ge 12, 3) := by decide +kernel
theorem dX6_blow_98 : decode cX6_blow 98 = .ok (.aload_n 0, 1) := by decide +kernel
theorem dX6_blow_99 : decode cX6_blow 99 = .ok (.getfield 46, 3) := by decide +kernel
theorem dX6_blow_102 : decode cX6_blow 102 = .ok (.iload_n 1, 1) := by decide +kernel
theorem dX6_blow_103 : decode cX6_blow 103 = .ok (.iconst 1, 1) := by decide +kernel
theorem dX6_blow_104 : decode cX6_blow 104 = .ok (.bastore, 1) := by decide +kernel
theorem dX6_blow_105 : decode cX6_blow 105 = .ok (.iconst (-1), 1) := by decide +kernel
theorem dX6_blow_106 : decode cX6_blow 106 = .ok (.ireturn, 1) := by decide +kernel
theorem dX6_blow_107 : decode cX6_blow 107 = .ok (.bipush 8, 2) := by decide +kernel
theorem dX6_blow_109 : decode cX6_blow 109 = .ok (.iload_n 1, 1) := by decide +kernel
theorem dX6_blow_110 : decode cX6_blow 110 = .ok (.imul, 1) := by decide +kernel
theorem dX6_blow_111 : decode cX6_blow 111 = .ok (.iload_n 2, 1) := by decide +kernel
theorem dX6_blow_112 : decode cX6_blow 112 = .ok (.iadd, 1) := by decide +kernel
theorem dX6_blow_113 : decode cX6_blow 113 = .ok (.istore 6, 2) := by decide +kernel
theorem dX6_blow_115 : decode cX6_blow 115 = .ok (.bipush 8, 2) := by decide +kernel
theorem dX6_blow_117 : decode cX6_blow 117 = .ok (.iload_n 1, 1) := by decide +kernel
theorem dX6_blow_118 : decode cX6_blow 118 = .ok (.imul, 1) := by decide +kernel
theorem dX6_blow_119 : decode cX6_blow 119 = .ok (.iload_n 2, 1) := by decide +kernel
theorem dX6_blow_120 : decode cX6_blow 120 = .ok (.invokestatic 141, 3) := by decide +kernel
theorem dX6_blow_123 : decode cX6_blow 123 = .ok (.iadd, 1) := by decide +kernel
theorem dX6_blow_124 : decode cX6_blow 124 = .ok (.istore 7, 2) := by decide +kernel
theorem dX6_blow_126 : decode cX6_blow 126 = .ok (.iload_n 3, 1) := by decide +kernel
theorem dX6_blow_127 : decode cX6_blow 127 = .ok (.ifCond .ne 8, 3) := by decide +kernel
theorem dX6_blow_130 : decode cX6_blow 130 = .ok (.iload 6, 2) := by decide +kernel
theorem dX6_blow_132 : decode cX6_blow 132 = .ok (.goto 5, 3) := by decide +kernel
theorem dX6_blow_135 : decode cX6_blow 135 = .ok (.iload 7, 2) := by decide +kernel
theorem dX6_blow_137 : decode cX6_blow 137 = .ok (.istore 8, 2) := by decide +kernel
theorem dX6_blow_139 : decode cX6_blow 139 = .ok (.iload_n 3, 1) := by decide +kernel
theorem dX6_blow_140 : decode cX6_blow 140 = .ok (.ifCond .ne 8, 3) := by decide +kernel
theorem dX6_blow_143 : decode cX6_blow 143 = .ok (.iload 7, 2) := by decide +kernel
theorem dX6_blow_145 : decode cX6_blow 145 = .ok (.goto 5, 3) := by decide +kernel
theorem dX6_blow_148 : decode cX6_blow 148 = .ok (.iload 6, 2) := by decide +kernel
theorem dX6_blow_150 : decode cX6_blow 150 = .ok (.istore 9, 2) := by decide +kernel
theorem dX6_blow_152 : decode cX6_blow 152 = .ok (.iload 4, 2) := by decide +kernel
theorem dX6_blow_154 : decode cX6_blow 154 = .ok (.aload_n 0, 1) := by decide +kernel
theorem dX6_blow_155 : decode cX6_blow 155 = .ok (.getfield 25, 3) := by decide +kernel
theorem dX6_blow_158 : decode cX6_blow 158 = .ok (.iload 8, 2) := by decide +kernel
theorem dX6_blow_160 : decode cX6_blow 160 = .ok (.iaload, 1) := by decide +kernel
theorem dX6_blow_161 : decode cX6_blow 161 = .ok (.iconst 1, 1) := by decide +kernel
theorem dX6_blow_162 : decode cX6_blow 162 = .ok (.isub, 1) := by decide +kernel
theorem dX6_blow_163 : decode cX6_blow 163 = .ok (.invokestatic 144, 3) := by decide +kernel
theorem dX6_blow_166 : decode cX6_blow 166 = .ok (.istore 10, 2) := by decide +kernel
theorem dX6_blow_168 : decode cX6_blow 168 = .ok (.aload_n 0, 1) := by decide +kernel
theorem dX6_blow_169 : decode cX6_blow 169 = .ok (.getfield 25, 3) := by decide +kernel
theorem dX6_blow_172 : decode cX6_blow 172 = .ok (.iload 8, 2) := by decide +kernel
theorem dX6_blow_174 : decode cX6_blow 174 = .ok (.dup2, 1) := by decide +kernel
theorem dX6_blow_175 : decode cX6_blow 175 = .ok (.iaload, 1) := by decide +kernel
theorem dX6_blow_176 : decode cX6_blow 176 = .ok (.iload 10, 2) := by decide +kernel
theorem dX6_blow_178 : decode cX6_blow 178 = .ok (.isub, 1) := by decide +kernel
theorem dX6_blow_179 : decode cX6_blow 179 = .ok (.iastore, 1) := by decide +kernel
theorem dX6_blow_180 : decode cX6_blow 180 = .ok (.aload_n 0, 1) := by decide +kernel
theorem dX6_blow_181 : decode cX6_blow 181 = .ok (.getfield 25, 3) := by decide +kernel
theorem dX6_blow_184 : decode cX6_blow 184 = .ok (.iload 9, 2) := by decide +kernel
theorem dX6_blow_186 : decode cX6_blow 186 = .ok (.dup2, 1) := by decide +kernel
theorem dX6_blow_187 : decode cX6_blow 187 = .ok (.iaload, 1) := by decide +kernel
theorem dX6_blow_188 : decode cX6_blow 188 = .ok (.iload 10, 2) := by decide +kernel
theorem dX6_blow_190 : decode cX6_blow 190 = .ok (.iadd, 1) := by decide +kernel
theorem dX6_blow_191 : decode cX6_blow 191 = .ok (.iastore, 1) := by decide +kernel
theorem dX6_blow_192 : decode cX6_blow 192 = .ok (.aload_n 0, 1) := by decide +kernel
theorem dX6_blow_193 : decode cX6_blow 193 = .ok (.getfield 43, 3) := by decide +kernel
theorem dX6_blow_196 : decode cX6_blow 196 = .ok (.iload_n 1, 1) := by decide +kernel
theorem dX6_blow_197 : decode cX6_blow 197 = .ok (.dup2, 1) := by decide +kernel
theorem dX6_blow_198 : decode cX6_blow 198 = .ok (.iaload, 1) := by decide +kernel
theorem dX6_blow_199 : decode cX6_blow 199 = .ok (.aload_n 0, 1) := by decide +kernel
theorem dX6_blow_200 : decode cX6_blow 200 = .ok (.getfield 25, 3) := by decide +kernel
theorem dX6_blow_203 : decode cX6_blow 203 = .ok (.iload 6, 2) := by decide +kernel
theorem dX6_blow_205 : decode cX6_blow 205 = .ok (.iaload, 1) := by decide +kernel
theorem dX6_blow_206 : decode cX6_blow 206 = .ok (.iconst 3, 1) := by decide +kernel
theorem dX6_blow_207 : decode cX6_blow 207 = .ok (.aload_n 0, 1) := by decide +kernel
theorem dX6_blow_208 : decode cX6_blow 208 = .ok (.getfield 25, 3) := by decide +kernel
theorem dX6_blow_211 : decode cX6_blow 211 = .ok (.iload 7, 2) := by decide +kernel
theorem dX6_blow_213 : decode cX6_blow 213 = .ok (.iaload, 1) := by decide +kernel
theorem dX6_blow_214 : decode cX6_blow 214 = .ok (.imul, 1) := by decide +kernel
theorem dX6_blow_215 : decode cX6_blow 215 = .ok (.if_icmp .gt 22, 3) := by decide +kernel
theorem dX6_blow_218 : decode cX6_blow 218 = .ok (.aload_n 0, 1) := by decide +kernel
theorem dX6_blow_219 : decode cX6_blow 219 = .ok (.getfield 25, 3) := by decide +kernel
theorem dX6_blow_222 : decode cX6_blow 222 = .ok (.iload 7, 2) := by decide +kernel
theorem dX6_blow_224 : decode cX6_blow 224 = .ok (.iaload, 1) := by decide +kernel
theorem dX6_blow_225 : decode cX6_blow 225 = .ok (.iconst 3, 1) := by decide +kernel
theorem dX6_blow_226 : decode cX6_blow 226 = .ok (.aload_n 0, 1) := by decide +kernel
theorem dX6_blow_227 : decode cX6_blow 227 = .ok (.getfield 25, 3) := by decide +kernel
theorem dX6_blow_230 : decode cX6_blow 230 = .ok (.iload 6, 2) := by decide +kernel
theorem dX6_blow_232 : decode cX6_blow 232 = .ok (.iaload, 1) := by decide +kernel
theorem dX6_blow_233 : decode cX6_blow 233 = .ok (.imul, 1) := by decide +kernel
theorem dX6_blow_234 : decode cX6_blow 234 = .ok (.if_icmp .le 7, 3) := by decide +kernel
theorem dX6_blow_237 : decode cX6_blow 237 = .ok (.iconst 1, 1) := by decide +kernel
theorem dX6_blow_238 : decode cX6_blow 238 = .ok (.goto 4, 3) := by decide +kernel
theorem dX6_blow_241 : decode cX6_blow 241 = .ok (.iconst 0, 1) := by decide +kernel
theorem dX6_blow_242 : decode cX6_blow 242 = .ok (.iadd, 1) := by decide +kernel
theorem dX6_blow_243 : decode cX6_blow 243 = .ok (.iastore, 1) := by decide +kernel
theorem dX6_blow_244 : decode cX6_blow 244 = .ok (.aload_n 0, 1) := by decide +kernel
theorem dX6_blow_245 : decode cX6_blow 245 = .ok (.getfield 34, 3) := by decide +kernel
theorem dX6_blow_248 : decode cX6_blow 248 = .ok (.iload_n 1, 1) := by decide +kernel
theorem dX6_blow_249 : decode cX6_blow 249 = .ok (.iaload, 1) := by decide +kernel
theorem dX6_blow_250 : decode cX6_blow 250 = .ok (.sipush 900, 3) := by decide +kernel
theorem dX6_blow_253 : decode cX6_blow 253 = .ok (.if_icmp .lt 35, 3) := by decide +kernel
theorem dX6_blow_256 : decode cX6_blow 256 = .ok (.aload_n 0, 1) := by decide +kernel
theorem dX6_blow_257 : decode cX6_blow 257 = .ok (.getfield 37, 3) := by decide +kernel
theorem dX6_blow_260 : decode cX6_blow 260 = .ok (.iload_n 1, 1) := by decide +kernel
theorem dX6_blow_261 : decode cX6_blow 261 = .ok (.aload_n 0, 1) := by decide +kernel
theorem dX6_blow_262 : decode cX6_blow 262 = .ok (.getfield 37, 3) := by decide +kernel
theorem dX6_blow_265 : decode cX6_blow 265 = .ok (.iload_n 1, 1) := by decide +kernel
theorem dX6_blow_266 : decode cX6_blow 266 = .ok (.iaload, 1) := by decide +kernel
theorem dX6_blow_267 : decode cX6_blow 267 = .ok (.iload 4, 2) := by decide +kernel
theorem dX6_blow_269 : decode cX6_blow 269 = .ok (.isub, 1) := by decide +kernel
theorem dX6_blow_270 : decode cX6_blow 270 = .ok (.iconst 5, 1) := by decide +kernel
theorem dX6_blow_271 : decode cX6_blow 271 = .ok (.if_icmp .ge 7, 3) := by decide +kernel
theorem dX6_blow_274 : decode cX6_blow 274 = .ok (.iconst 5, 1) := by decide +kernel
theorem dX6_blow_275 : decode cX6_blow 275 = .ok (.goto 12, 3) := by decide +kernel
theorem dX6_blow_278 : decode cX6_blow 278 = .ok (.aload_n 0, 1) := by decide +kernel
theorem dX6_blow_279 : decode cX6_blow 279 = .ok (.getfield 37, 3) := by decide +kernel
theorem dX6_blow_282 : decode cX6_blow 282 = .ok (.iload_n 1, 1) := by decide +kernel
theorem dX6_blow_283 : decode cX6_blow 283 = .ok (.iaload, 1) := by decide +kernel
theorem dX6_blow_284 : decode cX6_blow 284 = .ok (.iload 4, 2) := by decide +kernel
theorem dX6_blow_286 : decode cX6_blow 286 = .ok (.isub, 1) := by decide +kernel
theorem dX6_blow_287 : decode cX6_blow 287 = .ok (.iastore, 1) := by decide +kernel
theorem dX6_blow_288 : decode cX6_blow 288 = .ok (.aload_n 0, 1) := by decide +kernel
theorem dX6_blow_289 : decode cX6_blow 289 = .ok (.iload_n 1, 1) := by decide +kernel
theorem dX6_blow_290 : decode cX6_blow 290 = .ok (.invokevirtual 138, 3) := by decide +kernel
theorem dX6_blow_293 : decode cX6_blow 293 = .ok (.iload 10, 2) := by decide +kernel
theorem dX6_blow_295 : decode cX6_blow 295 = .ok (.ireturn, 1) := by decide +kernel
set_option maxRecDepth 20000 in
theorem ggX6_cut_X6_isBillet : GoodIn wsX6_cut wsX6_isBillet := goodIn_r _ [7, 8, 9, 10, 6, 11, 23, 24, 25, 26, 27, 28, 29, 30, 31, 32, 33, 34, 35, 36, 37, 38, 39, 40, 41, 42, 43, 44, 45, 46, 47, 48, 49, 50, 51, 52, 53, 54] (by decide +kernel) (by decide +kernel)
set_option maxRecDepth 20000 in
theorem gX6_cut_X6_isBillet : GoodIn wsX6_cut (wsV RX6 114 RX6 yX6_isBillet wsX6_isBillet) := goodIn_app (goodIn_of _ (by decide +kernel)) ggX6_cut_X6_isBillet
set_option maxRecDepth 20000 in
theorem ggX6_cut_X6_isSection : GoodIn wsX6_cut wsX6_isSection := goodIn_r _ [14, 9, 10, 6, 11] (by decide +kernel) (by decide +kernel)
set_option maxRecDepth 20000 in
theorem gX6_cut_X6_isSection : GoodIn wsX6_cut (va_wsS RX6 122 yX6_isSection wsX6_isSection) := goodIn_app (goodIn_of _ (by decide +kernel)) ggX6_cut_X6_isSection
set_option maxRecDepth 20000 in
theorem ggX6_cut_X6_in : GoodIn wsX6_cut wsX6_in := goodIn_r _ [11] (by decide +kernel) (by decide +kernel)
set_option maxRecDepth 20000 in
theorem gX6_cut_X6_in : GoodIn wsX6_cut (va_wsS RX6 96 yX6_in wsX6_in) := goodIn_app (goodIn_of _ (by decide +kernel)) ggX6_cut_X6_in
set_option maxRecDepth 20000 in
theorem ggX6_cut_X6_goes : GoodIn wsX6_cut wsX6_goes := goodIn_r _ [18, 19, 23, 24, 25, 26, 27, 28, 29, 30, 31, 32, 33, 34, 35, 36, 37, 38, 39, 40, 41, 42, 43, 44, 45, 46, 47, 48, 49, 50, 51, 52, 53, 54] (by decide +kernel) (by decide +kernel)
set_option maxRecDepth 20000 in
theorem gX6_cut_X6_goes : GoodIn wsX6_cut (wsV RX6 103 RX6 yX6_goes wsX6_goes) := goodIn_app (goodIn_of _ (by decide +kernel)) ggX6_cut_X6_goes
set_option maxRecDepth 20000 in
theorem ggX6_cut_X6_least : GoodIn wsX6_cut wsX6_least := goodIn_r _ [22] (by decide +kernel) (by decide +kernel)
set_option maxRecDepth 20000 in
theorem gX6_cut_X6_least : GoodIn wsX6_cut (va_wsS RX6 144 yX6_least wsX6_least) := goodIn_app (goodIn_of _ (by decide +kernel)) ggX6_cut_X6_least
theorem dX6_cut_0 : decode cX6_cut 0 = .ok (.aload_n 0, 1) := by decide +kernel
theorem dX6_cut_1 : decode cX6_cut 1 = .ok (.iload_n 1, 1) := by decide +kernel
theorem dX6_cut_2 : decode cX6_cut 2 = .ok (.invokevirtual 114, 3) := by decide +kernel
theorem dX6_cut_5 : decode cX6_cut 5 = .ok (.ifCond .eq 14, 3) := by decide +kernel
theorem dX6_cut_8 : decode cX6_cut 8 = .ok (.iload_n 2, 1) := by decide +kernel
theorem dX6_cut_9 : decode cX6_cut 9 = .ok (.invokestatic 122, 3) := by decide +kernel
theorem dX6_cut_12 : decode cX6_cut 12 = .ok (.ifCond .eq 7, 3) := by decide +kernel
theorem dX6_cut_15 : decode cX6_cut 15 = .ok (.iconst 1, 1) := by decide +kernel
theorem dX6_cut_16 : decode cX6_cut 16 = .ok (.goto 4, 3) := by decide +kernel
theorem dX6_cut_19 : decode cX6_cut 19 = .ok (.iconst 0, 1) := by decide +kernel
theorem dX6_cut_20 : decode cX6_cut 20 = .ok (.istore 4, 2) := by decide +kernel
theorem dX6_cut_22 : decode cX6_cut 22 = .ok (.aload_n 0, 1) := by decide +kernel
theorem dX6_cut_23 : decode cX6_cut 23 = .ok (.iload 4, 2) := by decide +kernel
theorem dX6_cut_25 : decode cX6_cut 25 = .ok (.iload_n 3, 1) := by decide +kernel
theorem dX6_cut_26 : decode cX6_cut 26 = .ok (.iconst 1, 1) := by decide +kernel
theorem dX6_cut_27 : decode cX6_cut 27 = .ok (.sipush 200, 3) := by decide +kernel
theorem dX6_cut_30 : decode cX6_cut 30 = .ok (.invokestatic 96, 3) := by decide +kernel
theorem dX6_cut_33 : decode cX6_cut 33 = .ok (.iconst 1, 1) := by decide +kernel
theorem dX6_cut_34 : decode cX6_cut 34 = .ok (.invokevirtual 103, 3) := by decide +kernel
theorem dX6_cut_37 : decode cX6_cut 37 = .ok (.ifCond .ne 5, 3) := by decide +kernel
theorem dX6_cut_40 : decode cX6_cut 40 = .ok (.iconst 0, 1) := by decide +kernel
theorem dX6_cut_41 : decode cX6_cut 41 = .ok (.ireturn, 1) := by decide +kernel
theorem dX6_cut_42 : decode cX6_cut 42 = .ok (.bipush 8, 2) := by decide +kernel
theorem dX6_cut_44 : decode cX6_cut 44 = .ok (.iload_n 1, 1) := by decide +kernel
theorem dX6_cut_45 : decode cX6_cut 45 = .ok (.imul, 1) := by decide +kernel
theorem dX6_cut_46 : decode cX6_cut 46 = .ok (.iload_n 2, 1) := by decide +kernel
theorem dX6_cut_47 : decode cX6_cut 47 = .ok (.iadd, 1) := by decide +kernel
theorem dX6_cut_48 : decode cX6_cut 48 = .ok (.istore 5, 2) := by decide +kernel
theorem dX6_cut_50 : decode cX6_cut 50 = .ok (.iload_n 3, 1) := by decide +kernel
theorem dX6_cut_51 : decode cX6_cut 51 = .ok (.aload_n 0, 1) := by decide +kernel
theorem dX6_cut_52 : decode cX6_cut 52 = .ok (.getfield 25, 3) := by decide +kernel
theorem dX6_cut_55 : decode cX6_cut 55 = .ok (.iload 5, 2) := by decide +kernel
theorem dX6_cut_57 : decode cX6_cut 57 = .ok (.iaload, 1) := by decide +kernel
theorem dX6_cut_58 : decode cX6_cut 58 = .ok (.iconst 1, 1) := by decide +kernel
theorem dX6_cut_59 : decode cX6_cut 59 = .ok (.isub, 1) := by decide +kernel
theorem dX6_cut_60 : decode cX6_cut 60 = .ok (.invokestatic 144, 3) := by decide +kernel
theorem dX6_cut_63 : decode cX6_cut 63 = .ok (.istore 6, 2) := by decide +kernel
theorem dX6_cut_65 : decode cX6_cut 65 = .ok (.aload_n 0, 1) := by decide +kernel
theorem dX6_cut_66 : decode cX6_cut 66 = .ok (.getfield 25, 3) := by decide +kernel
theorem dX6_cut_69 : decode cX6_cut 69 = .ok (.iload 5, 2) := by decide +kernel
theorem dX6_cut_71 : decode cX6_cut 71 = .ok (.dup2, 1) := by decide +kernel
theorem dX6_cut_72 : decode cX6_cut 72 = .ok (.iaload, 1) := by decide +kernel
theorem dX6_cut_73 : decode cX6_cut 73 = .ok (.iload 6, 2) := by decide +kernel
theorem dX6_cut_75 : decode cX6_cut 75 = .ok (.isub, 1) := by decide +kernel
theorem dX6_cut_76 : decode cX6_cut 76 = .ok (.iastore, 1) := by decide +kernel
theorem dX6_cut_77 : decode cX6_cut 77 = .ok (.aload_n 0, 1) := by decide +kernel
theorem dX6_cut_78 : decode cX6_cut 78 = .ok (.getfield 65, 3) := by decide +kernel
theorem dX6_cut_81 : decode cX6_cut 81 = .ok (.iload_n 1, 1) := by decide +kernel
theorem dX6_cut_82 : decode cX6_cut 82 = .ok (.dup2, 1) := by decide +kernel
theorem dX6_cut_83 : decode cX6_cut 83 = .ok (.iaload, 1) := by decide +kernel
theorem dX6_cut_84 : decode cX6_cut 84 = .ok (.iload 6, 2) := by decide +kernel
theorem dX6_cut_86 : decode cX6_cut 86 = .ok (.iadd, 1) := by decide +kernel
theorem dX6_cut_87 : decode cX6_cut 87 = .ok (.iastore, 1) := by decide +kernel
theorem dX6_cut_88 : decode cX6_cut 88 = .ok (.iload 6, 2) := by decide +kernel
theorem dX6_cut_90 : decode cX6_cut 90 = .ok (.ireturn, 1) := by decide +kernel
set_option maxRecDepth 20000 in
theorem ggX6_die_X6_goes : GoodIn wsX6_die wsX6_goes := goodIn_r _ [8, 9, 10, 11, 12, 13, 14, 15, 16, 17, 18, 19, 20, 21, 22, 23, 24, 25, 26, 27, 28, 29, 30, 31, 32, 33, 34, 35, 36, 37, 38, 39, 40, 41] (by decide +kernel) (by decide +kernel)
set_option maxRecDepth 20000 in
theorem gX6_die_X6_goes : GoodIn wsX6_die (wsV RX6 103 RX6 yX6_goes wsX6_goes) := goodIn_app (goodIn_of _ (by decide +kernel)) ggX6_die_X6_goes
theorem dX6_die_0 : decode cX6_die 0 = .ok (.aload_n 0, 1) := by decide +kernel
theorem dX6_die_1 : decode cX6_die 1 = .ok (.aload_n 0, 1) := by decide +kernel
theorem dX6_die_2 : decode cX6_die 2 = .ok (.getfield 100, 3) := by decide +kernel
theorem dX6_die_5 : decode cX6_die 5 = .ok (.iconst 4, 1) := by decide +kernel
theorem dX6_die_6 : decode cX6_die 6 = .ok (.if_icmp .ge 7, 3) := by decide +kernel
theorem dX6_die_9 : decode cX6_die 9 = .ok (.iconst 1, 1) := by decide +kernel
theorem dX6_die_10 : decode cX6_die 10 = .ok (.goto 4, 3) := by decide +kernel
theorem dX6_die_13 : decode cX6_die 13 = .ok (.iconst 0, 1) := by decide +kernel
theorem dX6_die_14 : decode cX6_die 14 = .ok (.iconst 1, 1) := by decide +kernel
theorem dX6_die_15 : decode cX6_die 15 = .ok (.iconst 1, 1) := by decide +kernel
theorem dX6_die_16 : decode cX6_die 16 = .ok (.invokevirtual 103, 3) := by decide +kernel
theorem dX6_die_19 : decode cX6_die 19 = .ok (.ifCond .ne 5, 3) := by decide +kernel
theorem dX6_die_22 : decode cX6_die 22 = .ok (.iconst 0, 1) := by decide +kernel
theorem dX6_die_23 : decode cX6_die 23 = .ok (.ireturn, 1) := by decide +kernel
theorem dX6_die_24 : decode cX6_die 24 = .ok (.iconst 0, 1) := by decide +kernel
theorem dX6_die_25 : decode cX6_die 25 = .ok (.istore_n 1, 1) := by decide +kernel
theorem dX6_die_26 : decode cX6_die 26 = .ok (.iload_n 1, 1) := by decide +kernel
theorem dX6_die_27 : decode cX6_die 27 = .ok (.bipush 8, 2) := by decide +kernel
theorem dX6_die_29 : decode cX6_die 29 = .ok (.if_icmp .ge 25, 3) := by decide +kernel
theorem dX6_die_32 : decode cX6_die 32 = .ok (.aload_n 0, 1) := by decide +kernel
theorem dX6_die_33 : decode cX6_die 33 = .ok (.getfield 68, 3) := by decide +kernel
theorem dX6_die_36 : decode cX6_die 36 = .ok (.bipush 8, 2) := by decide +kernel
theorem dX6_die_38 : decode cX6_die 38 = .ok (.aload_n 0, 1) := by decide +kernel
theorem dX6_die_39 : decode cX6_die 39 = .ok (.getfield 100, 3) := by decide +kernel
theorem dX6_die_42 : decode cX6_die 42 = .ok (.imul, 1) := by decide +kernel
theorem dX6_die_43 : decode cX6_die 43 = .ok (.iload_n 1, 1) := by decide +kernel
theorem dX6_die_44 : decode cX6_die 44 = .ok (.iadd, 1) := by decide +kernel
theorem dX6_die_45 : decode cX6_die 45 = .ok (.bipush 10, 2) := by decide +kernel
theorem dX6_die_47 : decode cX6_die 47 = .ok (.iastore, 1) := by decide +kernel
theorem dX6_die_48 : decode cX6_die 48 = .ok (.iinc 1 1, 3) := by decide +kernel
theorem dX6_die_51 : decode cX6_die 51 = .ok (.goto (-25), 3) := by decide +kernel
theorem dX6_die_54 : decode cX6_die 54 = .ok (.aload_n 0, 1) := by decide +kernel
theorem dX6_die_55 : decode cX6_die 55 = .ok (.getfield 71, 3) := by decide +kernel
theorem dX6_die_58 : decode cX6_die 58 = .ok (.aload_n 0, 1) := by decide +kernel
theorem dX6_die_59 : decode cX6_die 59 = .ok (.getfield 100, 3) := by decide +kernel
theorem dX6_die_62 : decode cX6_die 62 = .ok (.bipush 100, 2) := by decide +kernel
theorem dX6_die_64 : decode cX6_die 64 = .ok (.iastore, 1) := by decide +kernel
theorem dX6_die_65 : decode cX6_die 65 = .ok (.aload_n 0, 1) := by decide +kernel
theorem dX6_die_66 : decode cX6_die 66 = .ok (.dup, 1) := by decide +kernel
theorem dX6_die_67 : decode cX6_die 67 = .ok (.getfield 100, 3) := by decide +kernel
theorem dX6_die_70 : decode cX6_die 70 = .ok (.iconst 1, 1) := by decide +kernel
theorem dX6_die_71 : decode cX6_die 71 = .ok (.iadd, 1) := by decide +kernel
theorem dX6_die_72 : decode cX6_die 72 = .ok (.putfield 100, 3) := by decide +kernel
theorem dX6_die_75 : decode cX6_die 75 = .ok (.aload_n 0, 1) := by decide +kernel
theorem dX6_die_76 : decode cX6_die 76 = .ok (.getfield 100, 3) := by decide +kernel
theorem dX6_die_79 : decode cX6_die 79 = .ok (.iconst 1, 1) := by decide +kernel
theorem dX6_die_80 : decode cX6_die 80 = .ok (.isub, 1) := by decide +kernel
theorem dX6_die_81 : decode cX6_die 81 = .ok (.ireturn, 1) := by decide +kernel
set_option maxRecDepth 20000 in
theorem ggX6_shape_X6_isDie : GoodIn wsX6_shape wsX6_isDie := goodIn_r _ [6, 7, 8, 9, 5, 10, 19, 20, 21, 22, 23, 24, 25, 26, 27, 28, 29, 30, 31, 32, 33, 34, 35, 36, 37, 38, 39, 40, 41, 42, 43, 44, 45, 46, 47, 48, 49, 50] (by decide +kernel) (by decide +kernel)
set_option maxRecDepth 20000 in
theorem gX6_shape_X6_isDie : GoodIn wsX6_shape (wsV RX6 147 RX6 yX6_isDie wsX6_isDie) := goodIn_app (goodIn_of _ (by decide +kernel)) ggX6_shape_X6_isDie
set_option maxRecDepth 20000 in
theorem ggX6_shape_X6_isSection : GoodIn wsX6_shape wsX6_isSection := goodIn_r _ [13, 8, 9, 5, 10] (by decide +kernel) (by decide +kernel)
set_option maxRecDepth 20000 in
theorem gX6_shape_X6_isSection : GoodIn wsX6_shape (va_wsS RX6 122 yX6_isSection wsX6_isSection) := goodIn_app (goodIn_of _ (by decide +kernel)) ggX6_shape_X6_isSection
set_option maxRecDepth 20000 in
theorem ggX6_shape_X6_in : GoodIn wsX6_shape wsX6_in := goodIn_r _ [10] (by decide +kernel) (by decide +kernel)
set_option maxRecDepth 20000 in
theorem gX6_shape_X6_in : GoodIn wsX6_shape (va_wsS RX6 96 yX6_in wsX6_in) := goodIn_app (goodIn_of _ (by decide +kernel)) ggX6_shape_X6_in
set_option maxRecDepth 20000 in
theorem ggX6_shape_X6_goes : GoodIn wsX6_shape wsX6_goes := goodIn_r _ [17, 18, 19, 20, 21, 22, 23, 24, 25, 26, 27, 28, 29, 30, 31, 32, 33, 34, 35, 36, 37, 38, 39, 40, 41, 42, 43, 44, 45, 46, 47, 48, 49, 50] (by decide +kernel) (by decide +kernel)
set_option maxRecDepth 20000 in
theorem gX6_shape_X6_goes : GoodIn wsX6_shape (wsV RX6 103 RX6 yX6_goes wsX6_goes) := goodIn_app (goodIn_of _ (by decide +kernel)) ggX6_shape_X6_goes
theorem dX6_shape_0 : decode cX6_shape 0 = .ok (.aload_n 0, 1) := by decide +kernel
theorem dX6_shape_1 : decode cX6_shape 1 = .ok (.aload_n 0, 1) := by decide +kernel
theorem dX6_shape_2 : decode cX6_shape 2 = .ok (.iload_n 1, 1) := by decide +kernel
theorem dX6_shape_3 : decode cX6_shape 3 = .ok (.invokevirtual 147, 3) := by decide +kernel
theorem dX6_shape_6 : decode cX6_shape 6 = .ok (.ifCond .eq 14, 3) := by decide +kernel
theorem dX6_shape_9 : decode cX6_shape 9 = .ok (.iload_n 2, 1) := by decide +kernel
theorem dX6_shape_10 : decode cX6_shape 10 = .ok (.invokestatic 122, 3) := by decide +kernel
theorem dX6_shape_13 : decode cX6_shape 13 = .ok (.ifCond .eq 7, 3) := by decide +kernel
theorem dX6_shape_16 : decode cX6_shape 16 = .ok (.iconst 1, 1) := by decide +kernel
theorem dX6_shape_17 : decode cX6_shape 17 = .ok (.goto 4, 3) := by decide +kernel
theorem dX6_shape_20 : decode cX6_shape 20 = .ok (.iconst 0, 1) := by decide +kernel
theorem dX6_shape_21 : decode cX6_shape 21 = .ok (.iload_n 3, 1) := by decide +kernel
theorem dX6_shape_22 : decode cX6_shape 22 = .ok (.iconst 1, 1) := by decide +kernel
theorem dX6_shape_23 : decode cX6_shape 23 = .ok (.sipush 400, 3) := by decide +kernel
theorem dX6_shape_26 : decode cX6_shape 26 = .ok (.invokestatic 96, 3) := by decide +kernel
theorem dX6_shape_29 : decode cX6_shape 29 = .ok (.iconst 1, 1) := by decide +kernel
theorem dX6_shape_30 : decode cX6_shape 30 = .ok (.invokevirtual 103, 3) := by decide +kernel
theorem dX6_shape_33 : decode cX6_shape 33 = .ok (.ifCond .ne 5, 3) := by decide +kernel
theorem dX6_shape_36 : decode cX6_shape 36 = .ok (.iconst 0, 1) := by decide +kernel
theorem dX6_shape_37 : decode cX6_shape 37 = .ok (.ireturn, 1) := by decide +kernel
theorem dX6_shape_38 : decode cX6_shape 38 = .ok (.aload_n 0, 1) := by decide +kernel
theorem dX6_shape_39 : decode cX6_shape 39 = .ok (.getfield 68, 3) := by decide +kernel
theorem dX6_shape_42 : decode cX6_shape 42 = .ok (.bipush 8, 2) := by decide +kernel
theorem dX6_shape_44 : decode cX6_shape 44 = .ok (.iload_n 1, 1) := by decide +kernel
theorem dX6_shape_45 : decode cX6_shape 45 = .ok (.imul, 1) := by decide +kernel
theorem dX6_shape_46 : decode cX6_shape 46 = .ok (.iload_n 2, 1) := by decide +kernel
theorem dX6_shape_47 : decode cX6_shape 47 = .ok (.iadd, 1) := by decide +kernel
theorem dX6_shape_48 : decode cX6_shape 48 = .ok (.iaload, 1) := by decide +kernel
theorem dX6_shape_49 : decode cX6_shape 49 = .ok (.istore 4, 2) := by decide +kernel
theorem dX6_shape_51 : decode cX6_shape 51 = .ok (.aload_n 0, 1) := by decide +kernel
theorem dX6_shape_52 : decode cX6_shape 52 = .ok (.getfield 68, 3) := by decide +kernel
theorem dX6_shape_55 : decode cX6_shape 55 = .ok (.bipush 8, 2) := by decide +kernel
theorem dX6_shape_57 : decode cX6_shape 57 = .ok (.iload_n 1, 1) := by decide +kernel
theorem dX6_shape_58 : decode cX6_shape 58 = .ok (.imul, 1) := by decide +kernel
theorem dX6_shape_59 : decode cX6_shape 59 = .ok (.iload_n 2, 1) := by decide +kernel
theorem dX6_shape_60 : decode cX6_shape 60 = .ok (.iadd, 1) := by decide +kernel
theorem dX6_shape_61 : decode cX6_shape 61 = .ok (.iload_n 3, 1) := by decide +kernel
theorem dX6_shape_62 : decode cX6_shape 62 = .ok (.iastore, 1) := by decide +kernel
theorem dX6_shape_63 : decode cX6_shape 63 = .ok (.iload 4, 2) := by decide +kernel
theorem dX6_shape_65 : decode cX6_shape 65 = .ok (.ireturn, 1) := by decide +kernel
set_option maxRecDepth 20000 in
theorem ggX6_sink_X6_isDie : GoodIn wsX6_sink wsX6_isDie := goodIn_r _ [6, 7, 8, 9, 5, 10, 16, 17, 18, 19, 20, 21, 22, 23, 24, 25, 26, 27, 28, 29, 30, 31, 32, 33, 34, 35, 36, 37, 38, 39, 40, 41, 42, 43, 44, 45, 46, 47] (by decide +kernel) (by decide +kernel)
set_option maxRecDepth 20000 in
theorem gX6_sink_X6_isDie : GoodIn wsX6_sink (wsV RX6 147 RX6 yX6_isDie wsX6_isDie) := goodIn_app (goodIn_of _ (by decide +kernel)) ggX6_sink_X6_isDie
set_option maxRecDepth 20000 in
theorem ggX6_sink_X6_goes : GoodIn wsX6_sink wsX6_goes := goodIn_r _ [14, 15, 16, 17, 18, 19, 20, 21, 22, 23, 24, 25, 26, 27, 28, 29, 30, 31, 32, 33, 34, 35, 36, 37, 38, 39, 40, 41, 42, 43, 44, 45, 46, 47] (by decide +kernel) (by decide +kernel)
set_option maxRecDepth 20000 in
theorem gX6_sink_X6_goes : GoodIn wsX6_sink (wsV RX6 103 RX6 yX6_goes wsX6_goes) := goodIn_app (goodIn_of _ (by decide +kernel)) ggX6_sink_X6_goes
theorem dX6_sink_0 : decode cX6_sink 0 = .ok (.aload_n 0, 1) := by decide +kernel
theorem dX6_sink_1 : decode cX6_sink 1 = .ok (.aload_n 0, 1) := by decide +kernel
theorem dX6_sink_2 : decode cX6_sink 2 = .ok (.iload_n 1, 1) := by decide +kernel
theorem dX6_sink_3 : decode cX6_sink 3 = .ok (.invokevirtual 147, 3) := by decide +kernel
theorem dX6_sink_6 : decode cX6_sink 6 = .ok (.iconst 1, 1) := by decide +kernel
theorem dX6_sink_7 : decode cX6_sink 7 = .ok (.iconst 1, 1) := by decide +kernel
theorem dX6_sink_8 : decode cX6_sink 8 = .ok (.invokevirtual 103, 3) := by decide +kernel
theorem dX6_sink_11 : decode cX6_sink 11 = .ok (.ifCond .ne 5, 3) := by decide +kernel
theorem dX6_sink_14 : decode cX6_sink 14 = .ok (.iconst 0, 1) := by decide +kernel
theorem dX6_sink_15 : decode cX6_sink 15 = .ok (.ireturn, 1) := by decide +kernel
theorem dX6_sink_16 : decode cX6_sink 16 = .ok (.aload_n 0, 1) := by decide +kernel
theorem dX6_sink_17 : decode cX6_sink 17 = .ok (.getfield 71, 3) := by decide +kernel
theorem dX6_sink_20 : decode cX6_sink 20 = .ok (.iload_n 1, 1) := by decide +kernel
theorem dX6_sink_21 : decode cX6_sink 21 = .ok (.iaload, 1) := by decide +kernel
theorem dX6_sink_22 : decode cX6_sink 22 = .ok (.istore_n 2, 1) := by decide +kernel
theorem dX6_sink_23 : decode cX6_sink 23 = .ok (.aload_n 0, 1) := by decide +kernel
theorem dX6_sink_24 : decode cX6_sink 24 = .ok (.getfield 71, 3) := by decide +kernel
theorem dX6_sink_27 : decode cX6_sink 27 = .ok (.iload_n 1, 1) := by decide +kernel
theorem dX6_sink_28 : decode cX6_sink 28 = .ok (.bipush 100, 2) := by decide +kernel
theorem dX6_sink_30 : decode cX6_sink 30 = .ok (.iastore, 1) := by decide +kernel
theorem dX6_sink_31 : decode cX6_sink 31 = .ok (.iload_n 2, 1) := by decide +kernel
theorem dX6_sink_32 : decode cX6_sink 32 = .ok (.ireturn, 1) := by decide +kernel
theorem dX6_over_0 : decode cX6_over 0 = .ok (.aload_n 0, 1) := by decide +kernel
