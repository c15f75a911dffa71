theorem dX0_warmCore_13 : decode cX0_warmCore 13 = .ok (.isub, 1) := by decide +kernel
theorem dX0_warmCore_14 : decode cX0_warmCore 14 = .ok (.bipush 6, 2) := by decide +kernel
theorem dX0_warmCore_16 : decode cX0_warmCore 16 = .ok (.idiv, 1) := by decide +kernel
theorem dX0_warmCore_17 : decode cX0_warmCore 17 = .ok (.iadd, 1) := by decide +kernel
theorem dX0_warmCore_18 : decode cX0_warmCore 18 = .ok (.putfield 19, 3) := by decide +kernel
theorem dX0_warmCore_21 : decode cX0_warmCore 21 = .ok (.return_, 1) := by decide +kernel
theorem dX0_loseScale_0 : decode cX0_loseScale 0 = .ok (.iconst 0, 1) := by decide +kernel
theorem dX0_loseScale_1 : decode cX0_loseScale 1 = .ok (.istore_n 1, 1) := by decide +kernel
theorem dX0_loseScale_2 : decode cX0_loseScale 2 = .ok (.iload_n 1, 1) := by decide +kernel
theorem dX0_loseScale_3 : decode cX0_loseScale 3 = .ok (.bipush 8, 2) := by decide +kernel
theorem dX0_loseScale_5 : decode cX0_loseScale 5 = .ok (.if_icmp .ge 39, 3) := by decide +kernel
theorem dX0_loseScale_8 : decode cX0_loseScale 8 = .ok (.aload_n 0, 1) := by decide +kernel
theorem dX0_loseScale_9 : decode cX0_loseScale 9 = .ok (.getfield 9, 3) := by decide +kernel
theorem dX0_loseScale_12 : decode cX0_loseScale 12 = .ok (.iload_n 1, 1) := by decide +kernel
theorem dX0_loseScale_13 : decode cX0_loseScale 13 = .ok (.iaload, 1) := by decide +kernel
theorem dX0_loseScale_14 : decode cX0_loseScale 14 = .ok (.iconst 1, 1) := by decide +kernel
theorem dX0_loseScale_15 : decode cX0_loseScale 15 = .ok (.if_icmp .le 23, 3) := by decide +kernel
theorem dX0_loseScale_18 : decode cX0_loseScale 18 = .ok (.aload_n 0, 1) := by decide +kernel
theorem dX0_loseScale_19 : decode cX0_loseScale 19 = .ok (.getfield 9, 3) := by decide +kernel
theorem dX0_loseScale_22 : decode cX0_loseScale 22 = .ok (.iload_n 1, 1) := by decide +kernel
theorem dX0_loseScale_23 : decode cX0_loseScale 23 = .ok (.dup2, 1) := by decide +kernel
theorem dX0_loseScale_24 : decode cX0_loseScale 24 = .ok (.iaload, 1) := by decide +kernel
theorem dX0_loseScale_25 : decode cX0_loseScale 25 = .ok (.iconst 1, 1) := by decide +kernel
theorem dX0_loseScale_26 : decode cX0_loseScale 26 = .ok (.isub, 1) := by decide +kernel
theorem dX0_loseScale_27 : decode cX0_loseScale 27 = .ok (.iastore, 1) := by decide +kernel
theorem dX0_loseScale_28 : decode cX0_loseScale 28 = .ok (.aload_n 0, 1) := by decide +kernel
theorem dX0_loseScale_29 : decode cX0_loseScale 29 = .ok (.dup, 1) := by decide +kernel
theorem dX0_loseScale_30 : decode cX0_loseScale 30 = .ok (.getfield 72, 3) := by decide +kernel
theorem dX0_loseScale_33 : decode cX0_loseScale 33 = .ok (.iconst 1, 1) := by decide +kernel
theorem dX0_loseScale_34 : decode cX0_loseScale 34 = .ok (.iadd, 1) := by decide +kernel
theorem dX0_loseScale_35 : decode cX0_loseScale 35 = .ok (.putfield 72, 3) := by decide +kernel
theorem dX0_loseScale_38 : decode cX0_loseScale 38 = .ok (.iinc 1 1, 3) := by decide +kernel
theorem dX0_loseScale_41 : decode cX0_loseScale 41 = .ok (.goto (-39), 3) := by decide +kernel
theorem dX0_loseScale_44 : decode cX0_loseScale 44 = .ok (.return_, 1) := by decide +kernel
set_option maxRecDepth 20000 in
theorem ggX0_strike_X5_isMoreThanThrice : GoodIn wsX0_strike wsX5_isMoreThanThrice := goodIn_r _ [15] (by decide +kernel) (by decide +kernel)
set_option maxRecDepth 20000 in
theorem gX0_strike_X5_isMoreThanThrice_n78 : GoodIn wsX0_strike (wsX5_isMoreThanThrice) := ggX0_strike_X5_isMoreThanThrice
set_option maxRecDepth 20000 in
theorem ggX0_strike_X0_standOutside : GoodIn wsX0_strike wsX0_standOutside := goodIn_r _ [20, 21, 22, 23, 24, 19, 25, 1, 26, 27, 28, 29, 30, 31, 32, 33, 34, 35, 36, 37, 38, 39, 40, 41, 42, 43] (by decide +kernel) (by decide +kernel)
set_option maxRecDepth 20000 in
theorem gX0_strike_X0_standOutside : GoodIn wsX0_strike (wsV RX0 88 RX0 yX0_standOutside wsX0_standOutside) := goodIn_app (goodIn_of _ (by decide +kernel)) ggX0_strike_X0_standOutside
theorem dX0_strike_0 : decode cX0_strike 0 = .ok (.aload_n 0, 1) := by decide +kernel
theorem dX0_strike_1 : decode cX0_strike 1 = .ok (.getfield 19, 3) := by decide +kernel
theorem dX0_strike_4 : decode cX0_strike 4 = .ok (.sipush 700, 3) := by decide +kernel
theorem dX0_strike_7 : decode cX0_strike 7 = .ok (.if_icmp .ge 10, 3) := by decide +kernel
theorem dX0_strike_10 : decode cX0_strike 10 = .ok (.aload_n 0, 1) := by decide +kernel
theorem dX0_strike_11 : decode cX0_strike 11 = .ok (.iconst 1, 1) := by decide +kernel
theorem dX0_strike_12 : decode cX0_strike 12 = .ok (.putfield 75, 3) := by decide +kernel
theorem dX0_strike_15 : decode cX0_strike 15 = .ok (.iconst (-1), 1) := by decide +kernel
theorem dX0_strike_16 : decode cX0_strike 16 = .ok (.ireturn, 1) := by decide +kernel
theorem dX0_strike_17 : decode cX0_strike 17 = .ok (.iload_n 3, 1) := by decide +kernel
theorem dX0_strike_18 : decode cX0_strike 18 = .ok (.aload_n 0, 1) := by decide +kernel
theorem dX0_strike_19 : decode cX0_strike 19 = .ok (.getfield 9, 3) := by decide +kernel
theorem dX0_strike_22 : decode cX0_strike 22 = .ok (.iload_n 1, 1) := by decide +kernel
theorem dX0_strike_23 : decode cX0_strike 23 = .ok (.iaload, 1) := by decide +kernel
theorem dX0_strike_24 : decode cX0_strike 24 = .ok (.iconst 1, 1) := by decide +kernel
theorem dX0_strike_25 : decode cX0_strike 25 = .ok (.isub, 1) := by decide +kernel
theorem dX0_strike_26 : decode cX0_strike 26 = .ok (.invokestatic 66, 3) := by decide +kernel
theorem dX0_strike_29 : decode cX0_strike 29 = .ok (.istore 4, 2) := by decide +kernel
theorem dX0_strike_31 : decode cX0_strike 31 = .ok (.aload_n 0, 1) := by decide +kernel
theorem dX0_strike_32 : decode cX0_strike 32 = .ok (.getfield 9, 3) := by decide +kernel
theorem dX0_strike_35 : decode cX0_strike 35 = .ok (.iload_n 1, 1) := by decide +kernel
theorem dX0_strike_36 : decode cX0_strike 36 = .ok (.dup2, 1) := by decide +kernel
theorem dX0_strike_37 : decode cX0_strike 37 = .ok (.iaload, 1) := by decide +kernel
theorem dX0_strike_38 : decode cX0_strike 38 = .ok (.iload 4, 2) := by decide +kernel
theorem dX0_strike_40 : decode cX0_strike 40 = .ok (.isub, 1) := by decide +kernel
theorem dX0_strike_41 : decode cX0_strike 41 = .ok (.iastore, 1) := by decide +kernel
theorem dX0_strike_42 : decode cX0_strike 42 = .ok (.aload_n 0, 1) := by decide +kernel
theorem dX0_strike_43 : decode cX0_strike 43 = .ok (.getfield 9, 3) := by decide +kernel
theorem dX0_strike_46 : decode cX0_strike 46 = .ok (.iload_n 2, 1) := by decide +kernel
theorem dX0_strike_47 : decode cX0_strike 47 = .ok (.dup2, 1) := by decide +kernel
theorem dX0_strike_48 : decode cX0_strike 48 = .ok (.iaload, 1) := by decide +kernel
theorem dX0_strike_49 : decode cX0_strike 49 = .ok (.iload 4, 2) := by decide +kernel
theorem dX0_strike_51 : decode cX0_strike 51 = .ok (.iadd, 1) := by decide +kernel
theorem dX0_strike_52 : decode cX0_strike 52 = .ok (.iastore, 1) := by decide +kernel
theorem dX0_strike_53 : decode cX0_strike 53 = .ok (.aload_n 0, 1) := by decide +kernel
theorem dX0_strike_54 : decode cX0_strike 54 = .ok (.getfield 9, 3) := by decide +kernel
theorem dX0_strike_57 : decode cX0_strike 57 = .ok (.iload_n 1, 1) := by decide +kernel
theorem dX0_strike_58 : decode cX0_strike 58 = .ok (.iaload, 1) := by decide +kernel
theorem dX0_strike_59 : decode cX0_strike 59 = .ok (.aload_n 0, 1) := by decide +kernel
theorem dX0_strike_60 : decode cX0_strike 60 = .ok (.getfield 9, 3) := by decide +kernel
theorem dX0_strike_63 : decode cX0_strike 63 = .ok (.iload_n 2, 1) := by decide +kernel
theorem dX0_strike_64 : decode cX0_strike 64 = .ok (.iaload, 1) := by decide +kernel
theorem dX0_strike_65 : decode cX0_strike 65 = .ok (.invokestatic 78, 3) := by decide +kernel
theorem dX0_strike_68 : decode cX0_strike 68 = .ok (.ifCond .ne 21, 3) := by decide +kernel
theorem dX0_strike_71 : decode cX0_strike 71 = .ok (.aload_n 0, 1) := by decide +kernel
theorem dX0_strike_72 : decode cX0_strike 72 = .ok (.getfield 9, 3) := by decide +kernel
theorem dX0_strike_75 : decode cX0_strike 75 = .ok (.iload_n 2, 1) := by decide +kernel
theorem dX0_strike_76 : decode cX0_strike 76 = .ok (.iaload, 1) := by decide +kernel
theorem dX0_strike_77 : decode cX0_strike 77 = .ok (.aload_n 0, 1) := by decide +kernel
theorem dX0_strike_78 : decode cX0_strike 78 = .ok (.getfield 9, 3) := by decide +kernel
theorem dX0_strike_81 : decode cX0_strike 81 = .ok (.iload_n 1, 1) := by decide +kernel
theorem dX0_strike_82 : decode cX0_strike 82 = .ok (.iaload, 1) := by decide +kernel
theorem dX0_strike_83 : decode cX0_strike 83 = .ok (.invokestatic 78, 3) := by decide +kernel
theorem dX0_strike_86 : decode cX0_strike 86 = .ok (.ifCond .eq 13, 3) := by decide +kernel
theorem dX0_strike_89 : decode cX0_strike 89 = .ok (.aload_n 0, 1) := by decide +kernel
theorem dX0_strike_90 : decode cX0_strike 90 = .ok (.dup, 1) := by decide +kernel
theorem dX0_strike_91 : decode cX0_strike 91 = .ok (.getfield 82, 3) := by decide +kernel
theorem dX0_strike_94 : decode cX0_strike 94 = .ok (.iconst 1, 1) := by decide +kernel
theorem dX0_strike_95 : decode cX0_strike 95 = .ok (.iadd, 1) := by decide +kernel
theorem dX0_strike_96 : decode cX0_strike 96 = .ok (.putfield 82, 3) := by decide +kernel
theorem dX0_strike_99 : decode cX0_strike 99 = .ok (.aload_n 0, 1) := by decide +kernel
theorem dX0_strike_100 : decode cX0_strike 100 = .ok (.getfield 19, 3) := by decide +kernel
theorem dX0_strike_103 : decode cX0_strike 103 = .ok (.sipush 900, 3) := by decide +kernel
theorem dX0_strike_106 : decode cX0_strike 106 = .ok (.if_icmp .lt 17, 3) := by decide +kernel
theorem dX0_strike_109 : decode cX0_strike 109 = .ok (.aload_n 0, 1) := by decide +kernel
theorem dX0_strike_110 : decode cX0_strike 110 = .ok (.iconst 5, 1) := by decide +kernel
theorem dX0_strike_111 : decode cX0_strike 111 = .ok (.aload_n 0, 1) := by decide +kernel
theorem dX0_strike_112 : decode cX0_strike 112 = .ok (.getfield 22, 3) := by decide +kernel
theorem dX0_strike_115 : decode cX0_strike 115 = .ok (.iload_n 3, 1) := by decide +kernel
theorem dX0_strike_116 : decode cX0_strike 116 = .ok (.isub, 1) := by decide +kernel
theorem dX0_strike_117 : decode cX0_strike 117 = .ok (.invokestatic 85, 3) := by decide +kernel
theorem dX0_strike_120 : decode cX0_strike 120 = .ok (.putfield 22, 3) := by decide +kernel
theorem dX0_strike_123 : decode cX0_strike 123 = .ok (.aload_n 0, 1) := by decide +kernel
theorem dX0_strike_124 : decode cX0_strike 124 = .ok (.invokevirtual 88, 3) := by decide +kernel
theorem dX0_strike_127 : decode cX0_strike 127 = .ok (.iload 4, 2) := by decide +kernel
theorem dX0_strike_129 : decode cX0_strike 129 = .ok (.ireturn, 1) := by decide +kernel
set_option maxRecDepth 20000 in
theorem ggX0_squeezeInto_X0_flowInto : GoodIn wsX0_squeezeInto wsX0_flowInto := goodIn_r _ [7, 8, 9, 10, 11, 12, 6, 13, 14, 15, 16, 17, 46, 47, 48, 49, 50, 51, 52, 53, 54, 55, 56, 57, 58, 59, 60, 61, 62, 63, 64, 65] (by decide +kernel) (by decide +kernel)
set_option maxRecDepth 20000 in
theorem gX0_squeezeInto_X0_flowInto : GoodIn wsX0_squeezeInto (wsV RX0 91 RX0 yX0_flowInto wsX0_flowInto) := goodIn_app (goodIn_of _ (by decide +kernel)) ggX0_squeezeInto_X0_flowInto
set_option maxRecDepth 20000 in
theorem ggX0_squeezeInto_X1_wearBy : GoodIn wsX0_squeezeInto wsX1_wearBy := goodIn_r _ [22, 23, 24, 25, 26, 27, 64, 65] (by decide +kernel) (by decide +kernel)
set_option maxRecDepth 20000 in
theorem gX0_squeezeInto_X1_wearBy : GoodIn wsX0_squeezeInto (wsV RX0 95 RX1 yX1_wearBy wsX1_wearBy) := goodIn_app (goodIn_of _ (by decide +kernel)) ggX0_squeezeInto_X1_wearBy
set_option maxRecDepth 20000 in
theorem ggX0_squeezeInto_X0_standOutside : GoodIn wsX0_squeezeInto wsX0_standOutside := goodIn_r _ [31, 32, 33, 34, 35, 6, 36, 1, 46, 47, 48, 49, 50, 51, 52, 53, 54, 55, 56, 57, 58, 59, 60, 61, 62, 63] (by decide +kernel) (by decide +kernel)
set_option maxRecDepth 20000 in
theorem gX0_squeezeInto_X0_standOutside : GoodIn wsX0_squeezeInto (wsV RX0 88 RX0 yX0_standOutside wsX0_standOutside) := goodIn_app (goodIn_of _ (by decide +kernel)) ggX0_squeezeInto_X0_standOutside
set_option maxRecDepth 20000 in
theorem ggX0_squeezeInto_X0_countBelow : GoodIn wsX0_squeezeInto wsX0_countBelow := goodIn_r _ [40, 8, 9, 46, 47, 48, 49, 50, 51, 52, 53, 54, 55, 56, 57, 58, 59, 60, 61, 62, 63, 64, 65] (by decide +kernel) (by decide +kernel)
set_option maxRecDepth 20000 in
theorem gX0_squeezeInto_X0_countBelow : GoodIn wsX0_squeezeInto (wsV RX0 101 RX0 yX0_countBelow wsX0_countBelow) := goodIn_app (goodIn_of _ (by decide +kernel)) ggX0_squeezeInto_X0_countBelow
set_option maxRecDepth 20000 in
theorem ggX0_squeezeInto_X0_cutFlash : GoodIn wsX0_squeezeInto wsX0_cutFlash := goodIn_r _ [44, 45, 8, 9, 46, 47, 48, 49, 50, 51, 52, 53, 54, 55, 56, 57, 58, 59, 60, 61, 62, 63, 64, 65] (by decide +kernel) (by decide +kernel)
set_option maxRecDepth 20000 in
theorem gX0_squeezeInto_X0_cutFlash : GoodIn wsX0_squeezeInto (wsV RX0 105 RX0 yX0_cutFlash wsX0_cutFlash) := goodIn_app (goodIn_of _ (by decide +kernel)) ggX0_squeezeInto_X0_cutFlash
theorem dX0_squeezeInto_0 : decode cX0_squeezeInto 0 = .ok (.aload_n 0, 1) := by decide +kernel
theorem dX0_squeezeInto_1 : decode cX0_squeezeInto 1 = .ok (.getfield 19, 3) := by decide +kernel
theorem dX0_squeezeInto_4 : decode cX0_squeezeInto 4 = .ok (.sipush 700, 3) := by decide +kernel
theorem dX0_squeezeInto_7 : decode cX0_squeezeInto 7 = .ok (.if_icmp .ge 10, 3) := by decide +kernel
theorem dX0_squeezeInto_10 : decode cX0_squeezeInto 10 = .ok (.aload_n 0, 1) := by decide +kernel
theorem dX0_squeezeInto_11 : decode cX0_squeezeInto 11 = .ok (.iconst 1, 1) := by decide +kernel
theorem dX0_squeezeInto_12 : decode cX0_squeezeInto 12 = .ok (.putfield 75, 3) := by decide +kernel
theorem dX0_squeezeInto_15 : decode cX0_squeezeInto 15 = .ok (.iconst (-1), 1) := by decide +kernel
theorem dX0_squeezeInto_16 : decode cX0_squeezeInto 16 = .ok (.ireturn, 1) := by decide +kernel
theorem dX0_squeezeInto_17 : decode cX0_squeezeInto 17 = .ok (.aload_n 0, 1) := by decide +kernel
theorem dX0_squeezeInto_18 : decode cX0_squeezeInto 18 = .ok (.aload_n 1, 1) := by decide +kernel
theorem dX0_squeezeInto_19 : decode cX0_squeezeInto 19 = .ok (.iload_n 2, 1) := by decide +kernel
theorem dX0_squeezeInto_20 : decode cX0_squeezeInto 20 = .ok (.aload_n 0, 1) := by decide +kernel
theorem dX0_squeezeInto_21 : decode cX0_squeezeInto 21 = .ok (.getfield 19, 3) := by decide +kernel
theorem dX0_squeezeInto_24 : decode cX0_squeezeInto 24 = .ok (.imul, 1) := by decide +kernel
theorem dX0_squeezeInto_25 : decode cX0_squeezeInto 25 = .ok (.sipush 1000, 3) := by decide +kernel
theorem dX0_squeezeInto_28 : decode cX0_squeezeInto 28 = .ok (.idiv, 1) := by decide +kernel
theorem dX0_squeezeInto_29 : decode cX0_squeezeInto 29 = .ok (.invokevirtual 91, 3) := by decide +kernel
theorem dX0_squeezeInto_32 : decode cX0_squeezeInto 32 = .ok (.aload_n 1, 1) := by decide +kernel
theorem dX0_squeezeInto_33 : decode cX0_squeezeInto 33 = .ok (.aload_n 0, 1) := by decide +kernel
theorem dX0_squeezeInto_34 : decode cX0_squeezeInto 34 = .ok (.getfield 19, 3) := by decide +kernel
theorem dX0_squeezeInto_37 : decode cX0_squeezeInto 37 = .ok (.sipush 900, 3) := by decide +kernel
theorem dX0_squeezeInto_40 : decode cX0_squeezeInto 40 = .ok (.if_icmp .ge 7, 3) := by decide +kernel
theorem dX0_squeezeInto_43 : decode cX0_squeezeInto 43 = .ok (.iconst 3, 1) := by decide +kernel
theorem dX0_squeezeInto_44 : decode cX0_squeezeInto 44 = .ok (.goto 4, 3) := by decide +kernel
theorem dX0_squeezeInto_47 : decode cX0_squeezeInto 47 = .ok (.iconst 1, 1) := by decide +kernel
theorem dX0_squeezeInto_48 : decode cX0_squeezeInto 48 = .ok (.invokevirtual 95, 3) := by decide +kernel
theorem dX0_squeezeInto_51 : decode cX0_squeezeInto 51 = .ok (.aload_n 0, 1) := by decide +kernel
theorem dX0_squeezeInto_52 : decode cX0_squeezeInto 52 = .ok (.invokevirtual 88, 3) := by decide +kernel
theorem dX0_squeezeInto_55 : decode cX0_squeezeInto 55 = .ok (.aload_n 0, 1) := by decide +kernel
theorem dX0_squeezeInto_56 : decode cX0_squeezeInto 56 = .ok (.aload_n 1, 1) := by decide +kernel
theorem dX0_squeezeInto_57 : decode cX0_squeezeInto 57 = .ok (.invokevirtual 101, 3) := by decide +kernel
theorem dX0_squeezeInto_60 : decode cX0_squeezeInto 60 = .ok (.istore_n 3, 1) := by decide +kernel
theorem dX0_squeezeInto_61 : decode cX0_squeezeInto 61 = .ok (.iload_n 3, 1) := by decide +kernel
theorem dX0_squeezeInto_62 : decode cX0_squeezeInto 62 = .ok (.ifCond .ne 8, 3) := by decide +kernel
theorem dX0_squeezeInto_65 : decode cX0_squeezeInto 65 = .ok (.aload_n 0, 1) := by decide +kernel
theorem dX0_squeezeInto_66 : decode cX0_squeezeInto 66 = .ok (.aload_n 1, 1) := by decide +kernel
theorem dX0_squeezeInto_67 : decode cX0_squeezeInto 67 = .ok (.invokevirtual 105, 3) := by decide +kernel
theorem dX0_squeezeInto_70 : decode cX0_squeezeInto 70 = .ok (.iload_n 3, 1) := by decide +kernel
theorem dX0_squeezeInto_71 : decode cX0_squeezeInto 71 = .ok (.ireturn, 1) := by decide +kernel
set_option maxRecDepth 20000 in
theorem ggX0_flowInto_X0_nearestAbove : GoodIn wsX0_flowInto wsX0_nearestAbove := goodIn_r _ [7, 8, 9, 10, 6, 11, 1, 2, 12, 13, 14, 15, 16, 17, 18, 19, 20, 21, 22, 23, 24, 25, 26, 27, 28, 29, 30, 31] (by decide +kernel) (by decide +kernel)
set_option maxRecDepth 20000 in
theorem gX0_flowInto_X0_nearestAbove : GoodIn wsX0_flowInto (wsV RX0 110 RX0 yX0_nearestAbove wsX0_nearestAbove) := goodIn_app (goodIn_of _ (by decide +kernel)) ggX0_flowInto_X0_nearestAbove
theorem dX0_flowInto_0 : decode cX0_flowInto 0 = .ok (.iload_n 2, 1) := by decide +kernel
theorem dX0_flowInto_1 : decode cX0_flowInto 1 = .ok (.istore_n 3, 1) := by decide +kernel
theorem dX0_flowInto_2 : decode cX0_flowInto 2 = .ok (.iconst 0, 1) := by decide +kernel
theorem dX0_flowInto_3 : decode cX0_flowInto 3 = .ok (.istore 4, 2) := by decide +kernel
theorem dX0_flowInto_5 : decode cX0_flowInto 5 = .ok (.iload 4, 2) := by decide +kernel
theorem dX0_flowInto_7 : decode cX0_flowInto 7 = .ok (.bipush 8, 2) := by decide +kernel
theorem dX0_flowInto_9 : decode cX0_flowInto 9 = .ok (.if_icmp .ge 74, 3) := by decide +kernel
theorem dX0_flowInto_12 : decode cX0_flowInto 12 = .ok (.iload_n 3, 1) := by decide +kernel
theorem dX0_flowInto_13 : decode cX0_flowInto 13 = .ok (.ifCond .le 64, 3) := by decide +kernel
theorem dX0_flowInto_16 : decode cX0_flowInto 16 = .ok (.aload_n 0, 1) := by decide +kernel
theorem dX0_flowInto_17 : decode cX0_flowInto 17 = .ok (.getfield 9, 3) := by decide +kernel
theorem dX0_flowInto_20 : decode cX0_flowInto 20 = .ok (.iload 4, 2) := by decide +kernel
theorem dX0_flowInto_22 : decode cX0_flowInto 22 = .ok (.iaload, 1) := by decide +kernel
theorem dX0_flowInto_23 : decode cX0_flowInto 23 = .ok (.aload_n 1, 1) := by decide +kernel
theorem dX0_flowInto_24 : decode cX0_flowInto 24 = .ok (.getfield 109, 3) := by decide +kernel
theorem dX0_flowInto_27 : decode cX0_flowInto 27 = .ok (.iload 4, 2) := by decide +kernel
theorem dX0_flowInto_29 : decode cX0_flowInto 29 = .ok (.iaload, 1) := by decide +kernel
theorem dX0_flowInto_30 : decode cX0_flowInto 30 = .ok (.if_icmp .ge 47, 3) := by decide +kernel
theorem dX0_flowInto_33 : decode cX0_flowInto 33 = .ok (.aload_n 0, 1) := by decide +kernel
theorem dX0_flowInto_34 : decode cX0_flowInto 34 = .ok (.aload_n 1, 1) := by decide +kernel
theorem dX0_flowInto_35 : decode cX0_flowInto 35 = .ok (.iload 4, 2) := by decide +kernel
theorem dX0_flowInto_37 : decode cX0_flowInto 37 = .ok (.invokevirtual 110, 3) := by decide +kernel
theorem dX0_flowInto_40 : decode cX0_flowInto 40 = .ok (.istore 5, 2) := by decide +kernel
theorem dX0_flowInto_42 : decode cX0_flowInto 42 = .ok (.iload 5, 2) := by decide +kernel
theorem dX0_flowInto_44 : decode cX0_flowInto 44 = .ok (.iconst (-1), 1) := by decide +kernel
theorem dX0_flowInto_45 : decode cX0_flowInto 45 = .ok (.if_icmp .ne 4, 3) := by decide +kernel
theorem dX0_flowInto_48 : decode cX0_flowInto 48 = .ok (.return_, 1) := by decide +kernel
theorem dX0_flowInto_49 : decode cX0_flowInto 49 = .ok (.aload_n 0, 1) := by decide +kernel
theorem dX0_flowInto_50 : decode cX0_flowInto 50 = .ok (.getfield 9, 3) := by decide +kernel
theorem dX0_flowInto_53 : decode cX0_flowInto 53 = .ok (.iload 5, 2) := by decide +kernel
theorem dX0_flowInto_55 : decode cX0_flowInto 55 = .ok (.dup2, 1) := by decide +kernel
theorem dX0_flowInto_56 : decode cX0_flowInto 56 = .ok (.iaload, 1) := by decide +kernel
theorem dX0_flowInto_57 : decode cX0_flowInto 57 = .ok (.iconst 1, 1) := by decide +kernel
theorem dX0_flowInto_58 : decode cX0_flowInto 58 = .ok (.isub, 1) := by decide +kernel
theorem dX0_flowInto_59 : decode cX0_flowInto 59 = .ok (.iastore, 1) := by decide +kernel
theorem dX0_flowInto_60 : decode cX0_flowInto 60 = .ok (.aload_n 0, 1) := by decide +kernel
theorem dX0_flowInto_61 : decode cX0_flowInto 61 = .ok (.getfield 9, 3) := by decide +kernel
theorem dX0_flowInto_64 : decode cX0_flowInto 64 = .ok (.iload 4, 2) := by decide +kernel
theorem dX0_flowInto_66 : decode cX0_flowInto 66 = .ok (.dup2, 1) := by decide +kernel
theorem dX0_flowInto_67 : decode cX0_flowInto 67 = .ok (.iaload, 1) := by decide +kernel
theorem dX0_flowInto_68 : decode cX0_flowInto 68 = .ok (.iconst 1, 1) := by decide +kernel
theorem dX0_flowInto_69 : decode cX0_flowInto 69 = .ok (.iadd, 1) := by decide +kernel
theorem dX0_flowInto_70 : decode cX0_flowInto 70 = .ok (.iastore, 1) := by decide +kernel
theorem dX0_flowInto_71 : decode cX0_flowInto 71 = .ok (.iinc 3 (-1), 3) := by decide +kernel
theorem dX0_flowInto_74 : decode cX0_flowInto 74 = .ok (.goto (-62), 3) := by decide +kernel
theorem dX0_flowInto_77 : decode cX0_flowInto 77 = .ok (.iinc 4 1, 3) := by decide +kernel
theorem dX0_flowInto_80 : decode cX0_flowInto 80 = .ok (.goto (-75), 3) := by decide +kernel
theorem dX0_flowInto_83 : decode cX0_flowInto 83 = .ok (.return_, 1) := by decide +kernel
set_option maxRecDepth 20000 in
theorem ggX0_nearestAbove_X0_hasMoreAt : GoodIn wsX0_nearestAbove wsX0_hasMoreAt := goodIn_r _ [5, 6, 7, 8, 9, 10, 11, 12, 13, 14, 15, 16, 17, 18, 19, 20, 21, 22, 23, 24, 25, 26, 27] (by decide +kernel) (by decide +kernel)
set_option maxRecDepth 20000 in
theorem gX0_nearestAbove_X0_hasMoreAt : GoodIn wsX0_nearestAbove (wsV RX0 114 RX0 yX0_hasMoreAt wsX0_hasMoreAt) := goodIn_app (goodIn_of _ (by decide +kernel)) ggX0_nearestAbove_X0_hasMoreAt
theorem dX0_nearestAbove_0 : decode cX0_nearestAbove 0 = .ok (.iconst 1, 1) := by decide +kernel
theorem dX0_nearestAbove_1 : decode cX0_nearestAbove 1 = .ok (.istore_n 3, 1) := by decide +kernel
theorem dX0_nearestAbove_2 : decode cX0_nearestAbove 2 = .ok (.iload_n 3, 1) := by decide +kernel
theorem dX0_nearestAbove_3 : decode cX0_nearestAbove 3 = .ok (.bipush 8, 2) := by decide +kernel
theorem dX0_nearestAbove_5 : decode cX0_nearestAbove 5 = .ok (.if_icmp .ge 39, 3) := by decide +kernel
theorem dX0_nearestAbove_8 : decode cX0_nearestAbove 8 = .ok (.aload_n 0, 1) := by decide +kernel
theorem dX0_nearestAbove_9 : decode cX0_nearestAbove 9 = .ok (.aload_n 1, 1) := by decide +kernel
theorem dX0_nearestAbove_10 : decode cX0_nearestAbove 10 = .ok (.iload_n 2, 1) := by decide +kernel
theorem dX0_nearestAbove_11 : decode cX0_nearestAbove 11 = .ok (.iload_n 3, 1) := by decide +kernel
theorem dX0_nearestAbove_12 : decode cX0_nearestAbove 12 = .ok (.isub, 1) := by decide +kernel
theorem dX0_nearestAbove_13 : decode cX0_nearestAbove 13 = .ok (.invokevirtual 114, 3) := by decide +kernel
theorem dX0_nearestAbove_16 : decode cX0_nearestAbove 16 = .ok (.ifCond .eq 7, 3) := by decide +kernel
theorem dX0_nearestAbove_19 : decode cX0_nearestAbove 19 = .ok (.iload_n 2, 1) := by decide +kernel
theorem dX0_nearestAbove_20 : decode cX0_nearestAbove 20 = .ok (.iload_n 3, 1) := by decide +kernel
theorem dX0_nearestAbove_21 : decode cX0_nearestAbove 21 = .ok (.isub, 1) := by decide +kernel
theorem dX0_nearestAbove_22 : decode cX0_nearestAbove 22 = .ok (.ireturn, 1) := by decide +kernel
theorem dX0_nearestAbove_23 : decode cX0_nearestAbove 23 = .ok (.aload_n 0, 1) := by decide +kernel
theorem dX0_nearestAbove_24 : decode cX0_nearestAbove 24 = .ok (.aload_n 1, 1) := by decide +kernel
theorem dX0_nearestAbove_25 : decode cX0_nearestAbove 25 = .ok (.iload_n 2, 1) := by decide +kernel
theorem dX0_nearestAbove_26 : decode cX0_nearestAbove 26 = .ok (.iload_n 3, 1) := by decide +kernel
theorem dX0_nearestAbove_27 : decode cX0_nearestAbove 27 = .ok (.iadd, 1) := by decide +kernel
theorem dX0_nearestAbove_28 : decode cX0_nearestAbove 28 = .ok (.invokevirtual 114, 3) := by decide +kernel
theorem dX0_nearestAbove_31 : decode cX0_nearestAbove 31 = .ok (.ifCond .eq 7, 3) := by decide +kernel
theorem dX0_nearestAbove_34 : decode cX0_nearestAbove 34 = .ok (.iload_n 2, 1) := by decide +kernel
theorem dX0_nearestAbove_35 : decode cX0_nearestAbove 35 = .ok (.iload_n 3, 1) := by decide +kernel
theorem dX0_nearestAbove_36 : decode cX0_nearestAbove 36 = .ok (.iadd, 1) := by decide +kernel
theorem dX0_nearestAbove_37 : decode cX0_nearestAbove 37 = .ok (.ireturn, 1) := by decide +kernel
theorem dX0_nearestAbove_38 : decode cX0_nearestAbove 38 = .ok (.iinc 3 1, 3) := by decide +kernel
theorem dX0_nearestAbove_41 : decode cX0_nearestAbove 41 = .ok (.goto (-39), 3) := by decide +kernel
theorem dX0_nearestAbove_44 : decode cX0_nearestAbove 44 = .ok (.iconst (-1), 1) := by decide +kernel
theorem dX0_nearestAbove_45 : decode cX0_nearestAbove 45 = .ok (.ireturn, 1) := by decide +kernel
theorem dX0_hasMoreAt_0 : decode cX0_hasMoreAt 0 = .ok (.iload_n 2, 1) := by decide +kernel
theorem dX0_hasMoreAt_1 : decode cX0_hasMoreAt 1 = .ok (.ifCond .lt 28, 3) := by decide +kernel
theorem dX0_hasMoreAt_4 : decode cX0_hasMoreAt 4 = .ok (.iload_n 2, 1) := by decide +kernel
theorem dX0_hasMoreAt_5 : decode cX0_hasMoreAt 5 = .ok (.bipush 8, 2) := by decide +kernel
theorem dX0_hasMoreAt_7 : decode cX0_hasMoreAt 7 = .ok (.if_icmp .ge 22, 3) := by decide +kernel
theorem dX0_hasMoreAt_10 : decode cX0_hasMoreAt 10 = .ok (.aload_n 0, 1) := by decide +kernel
theorem dX0_hasMoreAt_11 : decode cX0_hasMoreAt 11 = .ok (.getfield 9, 3) := by decide +kernel
theorem dX0_hasMoreAt_14 : decode cX0_hasMoreAt 14 = .ok (.iload_n 2, 1) := by decide +kernel
theorem dX0_hasMoreAt_15 : decode cX0_hasMoreAt 15 = .ok (.iaload, 1) := by decide +kernel
theorem dX0_hasMoreAt_16 : decode cX0_hasMoreAt 16 = .ok (.aload_n 1, 1) := by decide +kernel
theorem dX0_hasMoreAt_17 : decode cX0_hasMoreAt 17 = .ok (.getfield 109, 3) := by decide +kernel
theorem dX0_hasMoreAt_20 : decode cX0_hasMoreAt 20 = .ok (.iload_n 2, 1) := by decide +kernel
theorem dX0_hasMoreAt_21 : decode cX0_hasMoreAt 21 = .ok (.iaload, 1) := by decide +kernel
theorem dX0_hasMoreAt_22 : decode cX0_hasMoreAt 22 = .ok (.if_icmp .le 7, 3) := by decide +kernel
theorem dX0_hasMoreAt_25 : decode cX0_hasMoreAt 25 = .ok (.iconst 1, 1) := by decide +kernel
theorem dX0_hasMoreAt_26 : decode cX0_hasMoreAt 26 = .ok (.goto 4, 3) := by decide +kernel
theorem dX0_hasMoreAt_29 : decode cX0_hasMoreAt 29 = .ok (.iconst 0, 1) := by decide +kernel
theorem dX0_hasMoreAt_30 : decode cX0_hasMoreAt 30 = .ok (.ireturn, 1) := by decide +kernel
theorem dX0_countBelow_0 : decode cX0_countBelow 0 = .ok (.iconst 0, 1) := by decide +kernel
theorem dX0_countBelow_1 : decode cX0_countBelow 1 = .ok (.istore_n 2, 1) := by decide +kernel
theorem dX0_countBelow_2 : decode cX0_countBelow 2 = .ok (.iconst 0, 1) := by decide +kernel
theorem dX0_countBelow_3 : decode cX0_countBelow 3 = .ok (.istore_n 3, 1) := by decide +kernel
theorem dX0_countBelow_4 : decode cX0_countBelow 4 = .ok (.iload_n 3, 1) := by decide +kernel
theorem dX0_countBelow_5 : decode cX0_countBelow 5 = .ok (.bipush 8, 2) := by decide +kernel
theorem dX0_countBelow_7 : decode cX0_countBelow 7 = .ok (.if_icmp .ge 27, 3) := by decide +kernel
theorem dX0_countBelow_10 : decode cX0_countBelow 10 = .ok (.aload_n 0, 1) := by decide +kernel
theorem dX0_countBelow_11 : decode cX0_countBelow 11 = .ok (.getfield 9, 3) := by decide +kernel
theorem dX0_countBelow_14 : decode cX0_countBelow 14 = .ok (.iload_n 3, 1) := by decide +kernel
theorem dX0_countBelow_15 : decode cX0_countBelow 15 = .ok (.iaload, 1) := by decide +kernel
theorem dX0_countBelow_16 : decode cX0_countBelow 16 = .ok (.aload_n 1, 1) := by decide +kernel
theorem dX0_countBelow_17 : decode cX0_countBelow 17 = .ok (.getfield 109, 3) := by decide +kernel
theorem dX0_countBelow_20 : decode cX0_countBelow 20 = .ok (.iload_n 3, 1) := by decide +kernel
theorem dX0_countBelow_21 : decode cX0_countBelow 21 = .ok (.iaload, 1) := by decide +kernel
theorem dX0_countBelow_22 : decode cX0_countBelow 22 = .ok (.if_icmp .ge 6, 3) := by decide +kernel
theorem dX0_countBelow_25 : decode cX0_countBelow 25 = .ok (.iinc 2 1, 3) := by decide +kernel
theorem dX0_countBelow_28 : decode cX0_countBelow 28 = .ok (.iinc 3 1, 3) := by decide +kernel
theorem dX0_countBelow_31 : decode cX0_countBelow 31 = .ok (.goto (-27), 3) := by decide +kernel
theorem dX0_countBelow_34 : decode cX0_countBelow 34 = .ok (.iload_n 2, 1) := by decide +kernel
theorem dX0_countBelow_35 : decode cX0_countBelow 35 = .ok (.ireturn, 1) := by decide +kernel
theorem dX0_cutFlash_0 : decode cX0_cutFlash 0 = .ok (.iconst 0, 1) := by decide +kernel
theorem dX0_cutFlash_1 : decode cX0_cutFlash 1 = .ok (.istore_n 2, 1) := by decide +kernel
theorem dX0_cutFlash_2 : decode cX0_cutFlash 2 = .ok (.iload_n 2, 1) := by decide +kernel
theorem dX0_cutFlash_3 : decode cX0_cutFlash 3 = .ok (.bipush 8, 2) := by decide +kernel
theorem dX0_cutFlash_5 : decode cX0_cutFlash 5 = .ok (.if_icmp .ge 43, 3) := by decide +kernel
theorem dX0_cutFlash_8 : decode cX0_cutFlash 8 = .ok (.aload_n 0, 1) := by decide +kernel
theorem dX0_cutFlash_9 : decode cX0_cutFlash 9 = .ok (.dup, 1) := by decide +kernel
theorem dX0_cutFlash_10 : decode cX0_cutFlash 10 = .ok (.getfield 118, 3) := by decide +kernel
theorem dX0_cutFlash_13 : decode cX0_cutFlash 13 = .ok (.aload_n 0, 1) := by decide +kernel
theorem dX0_cutFlash_14 : decode cX0_cutFlash 14 = .ok (.getfield 9, 3) := by decide +kernel
theorem dX0_cutFlash_17 : decode cX0_cutFlash 17 = .ok (.iload_n 2, 1) := by decide +kernel
theorem dX0_cutFlash_18 : decode cX0_cutFlash 18 = .ok (.iaload, 1) := by decide +kernel
theorem dX0_cutFlash_19 : decode cX0_cutFlash 19 = .ok (.aload_n 1, 1) := by decide +kernel
theorem dX0_cutFlash_20 : decode cX0_cutFlash 20 = .ok (.getfield 109, 3) := by decide +kernel
theorem dX0_cutFlash_23 : decode cX0_cutFlash 23 = .ok (.iload_n 2, 1) := by decide +kernel
theorem dX0_cutFlash_24 : decode cX0_cutFlash 24 = .ok (.iaload, 1) := by decide +kernel
theorem dX0_cutFlash_25 : decode cX0_cutFlash 25 = .ok (.isub, 1) := by decide +kernel
theorem dX0_cutFlash_26 : decode cX0_cutFlash 26 = .ok (.iadd, 1) := by decide +kernel
theorem dX0_cutFlash_27 : decode cX0_cutFlash 27 = .ok (.putfield 118, 3) := by decide +kernel
theorem dX0_cutFlash_30 : decode cX0_cutFlash 30 = .ok (.aload_n 0, 1) := by decide +kernel
theorem dX0_cutFlash_31 : decode cX0_cutFlash 31 = .ok (.getfield 9, 3) := by decide +kernel
theorem dX0_cutFlash_34 : decode cX0_cutFlash 34 = .ok (.iload_n 2, 1) := by decide +kernel
theorem dX0_cutFlash_35 : decode cX0_cutFlash 35 = .ok (.aload_n 1, 1) := by decide +kernel
theorem dX0_cutFlash_36 : decode cX0_cutFlash 36 = .ok (.getfield 109, 3) := by decide +kernel
theorem dX0_cutFlash_39 : decode cX0_cutFlash 39 = .ok (.iload_n 2, 1) := by decide +kernel
theorem dX0_cutFlash_40 : decode cX0_cutFlash 40 = .ok (.iaload, 1) := by decide +kernel
theorem dX0_cutFlash_41 : decode cX0_cutFlash 41 = .ok (.iastore, 1) := by decide +kernel
theorem dX0_cutFlash_42 : decode cX0_cutFlash 42 = .ok (.iinc 2 1, 3) := by decide +kernel
theorem dX0_cutFlash_45 : decode cX0_cutFlash 45 = .ok (.goto (-43), 3) := by decide +kernel
theorem dX0_cutFlash_48 : decode cX0_cutFlash 48 = .ok (.return_, 1) := by decide +kernel
set_option maxRecDepth 20000 in
theorem ggX0_plunge_X0_isUneven : GoodIn wsX0_plunge wsX0_isUneven := goodIn_r _ [22, 1, 23, 24, 25, 26, 27, 28, 29, 30, 31, 32, 33, 34, 35, 36, 37, 38, 39, 40, 41, 42, 43, 44, 45] (by decide +kernel) (by decide +kernel)
set_option maxRecDepth 20000 in
theorem gX0_plunge_X0_isUneven : GoodIn wsX0_plunge (wsV RX0 129 RX0 yX0_isUneven wsX0_isUneven) := goodIn_app (goodIn_of _ (by decide +kernel)) ggX0_plunge_X0_isUneven
theorem dX0_plunge_0 : decode cX0_plunge 0 = .ok (.iconst 0, 1) := by decide +kernel
theorem dX0_plunge_1 : decode cX0_plunge 1 = .ok (.istore_n 3, 1) := by decide +kernel
theorem dX0_plunge_2 : decode cX0_plunge 2 = .ok (.iload_n 3, 1) := by decide +kernel
theorem dX0_plunge_3 : decode cX0_plunge 3 = .ok (.bipush 8, 2) := by decide +kernel
theorem dX0_plunge_5 : decode cX0_plunge 5 = .ok (.if_icmp .ge 69, 3) := by decide +kernel
theorem dX0_plunge_8 : decode cX0_plunge 8 = .ok (.bipush 9, 2) := by decide +kernel
theorem dX0_plunge_10 : decode cX0_plunge 10 = .ok (.iload_n 2, 1) := by decide +kernel
theorem dX0_plunge_11 : decode cX0_plunge 11 = .ok (.ifCond .eq 15, 3) := by decide +kernel
theorem dX0_plunge_14 : decode cX0_plunge 14 = .ok (.aload_n 0, 1) := by decide +kernel
theorem dX0_plunge_15 : decode cX0_plunge 15 = .ok (.getfield 9, 3) := by decide +kernel
theorem dX0_plunge_18 : decode cX0_plunge 18 = .ok (.iload_n 3, 1) := by decide +kernel
theorem dX0_plunge_19 : decode cX0_plunge 19 = .ok (.iaload, 1) := by decide +kernel
theorem dX0_plunge_20 : decode cX0_plunge 20 = .ok (.bipush 20, 2) := by decide +kernel
theorem dX0_plunge_22 : decode cX0_plunge 22 = .ok (.idiv, 1) := by decide +kernel
theorem dX0_plunge_23 : decode cX0_plunge 23 = .ok (.goto 12, 3) := by decide +kernel
theorem dX0_plunge_26 : decode cX0_plunge 26 = .ok (.aload_n 0, 1) := by decide +kernel
theorem dX0_plunge_27 : decode cX0_plunge 27 = .ok (.getfield 9, 3) := by decide +kernel
theorem dX0_plunge_30 : decode cX0_plunge 30 = .ok (.iload_n 3, 1) := by decide +kernel
theorem dX0_plunge_31 : decode cX0_plunge 31 = .ok (.iaload, 1) := by decide +kernel
theorem dX0_plunge_32 : decode cX0_plunge 32 = .ok (.bipush 10, 2) := by decide +kernel
theorem dX0_plunge_34 : decode cX0_plunge 34 = .ok (.idiv, 1) := by decide +kernel
theorem dX0_plunge_35 : decode cX0_plunge 35 = .ok (.invokestatic 66, 3) := by decide +kernel
theorem dX0_plunge_38 : decode cX0_plunge 38 = .ok (.istore 4, 2) := by decide +kernel
theorem dX0_plunge_40 : decode cX0_plunge 40 = .ok (.aload_n 0, 1) := by decide +kernel
theorem dX0_plunge_41 : decode cX0_plunge 41 = .ok (.getfield 31, 3) := by decide +kernel
theorem dX0_plunge_44 : decode cX0_plunge 44 = .ok (.iload_n 3, 1) := by decide +kernel
theorem dX0_plunge_45 : decode cX0_plunge 45 = .ok (.iconst 0, 1) := by decide +kernel
theorem dX0_plunge_46 : decode cX0_plunge 46 = .ok (.aload_n 0, 1) := by decide +kernel
theorem dX0_plunge_47 : decode cX0_plunge 47 = .ok (.getfield 44, 3) := by decide +kernel
theorem dX0_plunge_50 : decode cX0_plunge 50 = .ok (.getfield 121, 3) := by decide +kernel
theorem dX0_plunge_53 : decode cX0_plunge 53 = .ok (.aload_n 0, 1) := by decide +kernel
theorem dX0_plunge_54 : decode cX0_plunge 54 = .ok (.getfield 44, 3) := by decide +kernel
theorem dX0_plunge_57 : decode cX0_plunge 57 = .ok (.getfield 126, 3) := by decide +kernel
theorem dX0_plunge_60 : decode cX0_plunge 60 = .ok (.iload 4, 2) := by decide +kernel
theorem dX0_plunge_62 : decode cX0_plunge 62 = .ok (.imul, 1) := by decide +kernel
theorem dX0_plunge_63 : decode cX0_plunge 63 = .ok (.isub, 1) := by decide +kernel
theorem dX0_plunge_64 : decode cX0_plunge 64 = .ok (.invokestatic 85, 3) := by decide +kernel
theorem dX0_plunge_67 : decode cX0_plunge 67 = .ok (.iastore, 1) := by decide +kernel
theorem dX0_plunge_68 : decode cX0_plunge 68 = .ok (.iinc 3 1, 3) := by decide +kernel
theorem dX0_plunge_71 : decode cX0_plunge 71 = .ok (.goto (-69), 3) := by decide +kernel
theorem dX0_plunge_74 : decode cX0_plunge 74 = .ok (.iload_n 2, 1) := by decide +kernel
theorem dX0_plunge_75 : decode cX0_plunge 75 = .ok (.ifCond .eq 15, 3) := by decide +kernel
theorem dX0_plunge_78 : decode cX0_plunge 78 = .ok (.aload_n 0, 1) := by decide +kernel
theorem dX0_plunge_79 : decode cX0_plunge 79 = .ok (.invokevirtual 129, 3) := by decide +kernel
theorem dX0_plunge_82 : decode cX0_plunge 82 = .ok (.ifCond .eq 8, 3) := by decide +kernel
theorem dX0_plunge_85 : decode cX0_plunge 85 = .ok (.aload_n 0, 1) := by decide +kernel
theorem dX0_plunge_86 : decode cX0_plunge 86 = .ok (.iconst 1, 1) := by decide +kernel
theorem dX0_plunge_87 : decode cX0_plunge 87 = .ok (.putfield 75, 3) := by decide +kernel
theorem dX0_plunge_90 : decode cX0_plunge 90 = .ok (.aload_n 0, 1) := by decide +kernel
theorem dX0_plunge_91 : decode cX0_plunge 91 = .ok (.bipush 20, 2) := by decide +kernel
theorem dX0_plunge_93 : decode cX0_plunge 93 = .ok (.putfield 15, 3) := by decide +kernel
theorem dX0_plunge_96 : decode cX0_plunge 96 = .ok (.aload_n 0, 1) := by decide +kernel
theorem dX0_plunge_97 : decode cX0_plunge 97 = .ok (.bipush 20, 2) := by decide +kernel
theorem dX0_plunge_99 : decode cX0_plunge 99 = .ok (.putfield 19, 3) := by decide +kernel
theorem dX0_plunge_102 : decode cX0_plunge 102 = .ok (.aload_n 0, 1) := by decide +kernel
theorem dX0_plunge_103 : decode cX0_plunge 103 = .ok (.bipush 100, 2) := by decide +kernel
theorem dX0_plunge_105 : decode cX0_plunge 105 = .ok (.putfield 34, 3) := by decide +kernel
theorem dX0_plunge_108 : decode cX0_plunge 108 = .ok (.aload_n 0, 1) := by decide +kernel
theorem dX0_plunge_109 : decode cX0_plunge 109 = .ok (.iload_n 1, 1) := by decide +kernel
theorem dX0_plunge_110 : decode cX0_plunge 110 = .ok (.putfield 28, 3) := by decide +kernel
theorem dX0_plunge_113 : decode cX0_plunge 113 = .ok (.return_, 1) := by decide +kernel
set_option maxRecDepth 20000 in
theorem ggX0_isUneven_X5_neighbourOf : GoodIn wsX0_isUneven wsX5_neighbourOf := goodIn_r _ [4] (by decide +kernel) (by decide +kernel)
set_option maxRecDepth 20000 in
theorem gX0_isUneven_X5_neighbourOf_n133 : GoodIn wsX0_isUneven (wsX5_neighbourOf) := ggX0_isUneven_X5_neighbourOf
set_option maxRecDepth 20000 in
theorem ggX0_isUneven_X5_isMoreThanThrice : GoodIn wsX0_isUneven wsX5_isMoreThanThrice := goodIn_r _ [6] (by decide +kernel) (by decide +kernel)
set_option maxRecDepth 20000 in
theorem gX0_isUneven_X5_isMoreThanThrice_n78 : GoodIn wsX0_isUneven (wsX5_isMoreThanThrice) := ggX0_isUneven_X5_isMoreThanThrice
theorem dX0_isUneven_0 : decode cX0_isUneven 0 = .ok (.iconst 0, 1) := by decide +kernel
theorem dX0_isUneven_1 : decode cX0_isUneven 1 = .ok (.istore_n 1, 1) := by decide +kernel
theorem dX0_isUneven_2 : decode cX0_isUneven 2 = .ok (.iload_n 1, 1) := by decide +kernel
theorem dX0_isUneven_3 : decode cX0_isUneven 3 = .ok (.bipush 8, 2) := by decide +kernel
theorem dX0_isUneven_5 : decode cX0_isUneven 5 = .ok (.if_icmp .ge 47, 3) := by decide +kernel
theorem dX0_isUneven_8 : decode cX0_isUneven 8 = .ok (.aload_n 0, 1) := by decide +kernel
theorem dX0_isUneven_9 : decode cX0_isUneven 9 = .ok (.getfield 9, 3) := by decide +kernel
theorem dX0_isUneven_12 : decode cX0_isUneven 12 = .ok (.iload_n 1, 1) := by decide +kernel
theorem dX0_isUneven_13 : decode cX0_isUneven 13 = .ok (.invokestatic 133, 3) := by decide +kernel
theorem dX0_isUneven_16 : decode cX0_isUneven 16 = .ok (.iaload, 1) := by decide +kernel
theorem dX0_isUneven_17 : decode cX0_isUneven 17 = .ok (.istore_n 2, 1) := by decide +kernel
theorem dX0_isUneven_18 : decode cX0_isUneven 18 = .ok (.aload_n 0, 1) := by decide +kernel
theorem dX0_isUneven_19 : decode cX0_isUneven 19 = .ok (.getfield 9, 3) := by decide +kernel
theorem dX0_isUneven_22 : decode cX0_isUneven 22 = .ok (.iload_n 1, 1) := by decide +kernel
theorem dX0_isUneven_23 : decode cX0_isUneven 23 = .ok (.iaload, 1) := by decide +kernel
theorem dX0_isUneven_24 : decode cX0_isUneven 24 = .ok (.iload_n 2, 1) := by decide +kernel
theorem dX0_isUneven_25 : decode cX0_isUneven 25 = .ok (.invokestatic 78, 3) := by decide +kernel
theorem dX0_isUneven_28 : decode cX0_isUneven 28 = .ok (.ifCond .ne 16, 3) := by decide +kernel
theorem dX0_isUneven_31 : decode cX0_isUneven 31 = .ok (.iload_n 2, 1) := by decide +kernel
theorem dX0_isUneven_32 : decode cX0_isUneven 32 = .ok (.aload_n 0, 1) := by decide +kernel
theorem dX0_isUneven_33 : decode cX0_isUneven 33 = .ok (.getfield 9, 3) := by decide +kernel
theorem dX0_isUneven_36 : decode cX0_isUneven 36 = .ok (.iload_n 1, 1) := by decide +kernel
theorem dX0_isUneven_37 : decode cX0_isUneven 37 = .ok (.iaload, 1) := by decide +kernel
theorem dX0_isUneven_38 : decode cX0_isUneven 38 = .ok (.invokestatic 78, 3) := by decide +kernel
theorem dX0_isUneven_41 : decode cX0_isUneven 41 = .ok (.ifCond .eq 5, 3) := by decide +kernel
theorem dX0_isUneven_44 : decode cX0_isUneven 44 = .ok (.iconst 1, 1) := by decide +kernel
theorem dX0_isUneven_45 : decode cX0_isUneven 45 = .ok (.ireturn, 1) := by decide +kernel
theorem dX0_isUneven_46 : decode cX0_isUneven 46 = .ok (.iinc 1 1, 3) := by decide +kernel
theorem dX0_isUneven_49 : decode cX0_isUneven 49 = .ok (.goto (-47), 3) := by decide +kernel
theorem dX0_isUneven_52 : decode cX0_isUneven 52 = .ok (.iconst 0, 1) := by decide +kernel
theorem dX0_isUneven_53 : decode cX0_isUneven 53 = .ok (.ireturn, 1) := by decide +kernel
theorem dX0_hardnessAt_0 : decode cX0_hardnessAt 0 = .ok (.aload_n 0, 1) := by decide +kernel
theorem dX0_hardnessAt_1 : decode cX0_hardnessAt 1 = .ok (.getfield 28, 3) := by decide +kernel
theorem dX0_hardnessAt_4 : decode cX0_hardnessAt 4 = .ok (.iconst (-1), 1) := by decide +kernel
theorem dX0_hardnessAt_5 : decode cX0_hardnessAt 5 = .ok (.if_icmp .ne 5, 3) := by decide +kernel
theorem dX0_hardnessAt_8 : decode cX0_hardnessAt 8 = .ok (.iconst 0, 1) := by decide +kernel
theorem dX0_hardnessAt_9 : decode cX0_hardnessAt 9 = .ok (.ireturn, 1) := by decide +kernel
theorem dX0_hardnessAt_10 : decode cX0_hardnessAt 10 = .ok (.iconst 0, 1) := by decide +kernel
theorem dX0_hardnessAt_11 : decode cX0_hardnessAt 11 = .ok (.aload_n 0, 1) := by decide +kernel
theorem dX0_hardnessAt_12 : decode cX0_hardnessAt 12 = .ok (.getfield 31, 3) := by decide +kernel
theorem dX0_hardnessAt_15 : decode cX0_hardnessAt 15 = .ok (.iload_n 1, 1) := by decide +kernel
theorem dX0_hardnessAt_16 : decode cX0_hardnessAt 16 = .ok (.iaload, 1) := by decide +kernel
theorem dX0_hardnessAt_17 : decode cX0_hardnessAt 17 = .ok (.aload_n 0, 1) := by decide +kernel
theorem dX0_hardnessAt_18 : decode cX0_hardnessAt 18 = .ok (.getfield 34, 3) := by decide +kernel
theorem dX0_hardnessAt_21 : decode cX0_hardnessAt 21 = .ok (.bipush 100, 2) := by decide +kernel
theorem dX0_hardnessAt_23 : decode cX0_hardnessAt 23 = .ok (.isub, 1) := by decide +kernel
theorem dX0_hardnessAt_24 : decode cX0_hardnessAt 24 = .ok (.bipush 20, 2) := by decide +kernel
theorem dX0_hardnessAt_26 : decode cX0_hardnessAt 26 = .ok (.idiv, 1) := by decide +kernel
theorem dX0_hardnessAt_27 : decode cX0_hardnessAt 27 = .ok (.isub, 1) := by decide +kernel
theorem dX0_hardnessAt_28 : decode cX0_hardnessAt 28 = .ok (.invokestatic 85, 3) := by decide +kernel
theorem dX0_hardnessAt_31 : decode cX0_hardnessAt 31 = .ok (.ireturn, 1) := by decide +kernel
set_option maxRecDepth 20000 in
theorem ggX0_leastHardness_X0_hardnessAt : GoodIn wsX0_leastHardness wsX0_hardnessAt := goodIn_r _ [9, 10, 11, 12, 13, 14, 3, 15, 16, 17, 18, 19, 20, 21, 22, 23, 24, 25, 26, 27, 28, 29, 30, 31, 32, 33] (by decide +kernel) (by decide +kernel)
set_option maxRecDepth 20000 in
theorem gX0_leastHardness_X0_hardnessAt : GoodIn wsX0_leastHardness (wsV RX0 137 RX0 yX0_hardnessAt wsX0_hardnessAt) := goodIn_app (goodIn_of _ (by decide +kernel)) ggX0_leastHardness_X0_hardnessAt
theorem dX0_leastHardness_0 : decode cX0_leastHardness 0 = .ok (.aload_n 0, 1) := by decide +kernel
theorem dX0_leastHardness_1 : decode cX0_leastHardness 1 = .ok (.iconst 0, 1) := by decide +kernel
theorem dX0_leastHardness_2 : decode cX0_leastHardness 2 = .ok (.invokevirtual 137, 3) := by decide +kernel
theorem dX0_leastHardness_5 : decode cX0_leastHardness 5 = .ok (.istore_n 1, 1) := by decide +kernel
theorem dX0_leastHardness_6 : decode cX0_leastHardness 6 = .ok (.iconst 1, 1) := by decide +kernel
theorem dX0_leastHardness_7 : decode cX0_leastHardness 7 = .ok (.istore_n 2, 1) := by decide +kernel
theorem dX0_leastHardness_8 : decode cX0_leastHardness 8 = .ok (.iload_n 2, 1) := by decide +kernel
theorem dX0_leastHardness_9 : decode cX0_leastHardness 9 = .ok (.bipush 8, 2) := by decide +kernel
theorem dX0_leastHardness_11 : decode cX0_leastHardness 11 = .ok (.if_icmp .ge 19, 3) := by decide +kernel
theorem dX0_leastHardness_14 : decode cX0_leastHardness 14 = .ok (.iload_n 1, 1) := by decide +kernel
theorem dX0_leastHardness_15 : decode cX0_leastHardness 15 = .ok (.aload_n 0, 1) := by decide +kernel
theorem dX0_leastHardness_16 : decode cX0_leastHardness 16 = .ok (.iload_n 2, 1) := by decide +kernel
theorem dX0_leastHardness_17 : decode cX0_leastHardness 17 = .ok (.invokevirtual 137, 3) := by decide +kernel
theorem dX0_leastHardness_20 : decode cX0_leastHardness 20 = .ok (.invokestatic 66, 3) := by decide +kernel
theorem dX0_leastHardness_23 : decode cX0_leastHardness 23 = .ok (.istore_n 1, 1) := by decide +kernel
theorem dX0_leastHardness_24 : decode cX0_leastHardness 24 = .ok (.iinc 2 1, 3) := by decide +kernel
theorem dX0_leastHardness_27 : decode cX0_leastHardness 27 = .ok (.goto (-19), 3) := by decide +kernel
theorem dX0_leastHardness_30 : decode cX0_leastHardness 30 = .ok (.iload_n 1, 1) := by decide +kernel
theorem dX0_leastHardness_31 : decode cX0_leastHardness 31 = .ok (.ireturn, 1) := by decide +kernel
set_option maxRecDepth 20000 in
theorem ggX1_init_J7_fill_53178 : GoodIn wsX1_init wsJ7_fill_53178 := goodIn_r _ [10] (by decide +kernel) (by decide +kernel)
set_option maxRecDepth 20000 in
theorem gX1_init_J7_fill_53178 : GoodIn wsX1_init (va_wsS RX1 19 yJ7_fill_53178 wsJ7_fill_53178) := goodIn_app (goodIn_of _ (by decide +kernel)) ggX1_init_J7_fill_53178
theorem dX1_init_0 : decode cX1_init 0 = .ok (.aload_n 0, 1) := by decide +kernel
theorem dX1_init_1 : decode cX1_init 1 = .ok (.invokespecial 3, 3) := by decide +kernel
theorem dX1_init_4 : decode cX1_init 4 = .ok (.aload_n 0, 1) := by decide +kernel
theorem dX1_init_5 : decode cX1_init 5 = .ok (.bipush 8, 2) := by decide +kernel
theorem dX1_init_7 : decode cX1_init 7 = .ok (.newarray .int, 2) := by decide +kernel
theorem dX1_init_9 : decode cX1_init 9 = .ok (.putfield 9, 3) := by decide +kernel
theorem dX1_init_12 : decode cX1_init 12 = .ok (.aload_n 0, 1) := by decide +kernel
theorem dX1_init_13 : decode cX1_init 13 = .ok (.bipush 100, 2) := by decide +kernel
theorem dX1_init_15 : decode cX1_init 15 = .ok (.putfield 15, 3) := by decide +kernel
theorem dX1_init_18 : decode cX1_init 18 = .ok (.aload_n 0, 1) := by decide +kernel
theorem dX1_init_19 : decode cX1_init 19 = .ok (.getfield 9, 3) := by decide +kernel
theorem dX1_init_22 : decode cX1_init 22 = .ok (.bipush 10, 2) := by decide +kernel
theorem dX1_init_24 : decode cX1_init 24 = .ok (.invokestatic 19, 3) := by decide +kernel
theorem dX1_init_27 : decode cX1_init 27 = .ok (.return_, 1) := by decide +kernel
theorem dX1_wearBy_0 : decode cX1_wearBy 0 = .ok (.aload_n 0, 1) := by decide +kernel
theorem dX1_wearBy_1 : decode cX1_wearBy 1 = .ok (.iconst 0, 1) := by decide +kernel
theorem dX1_wearBy_2 : decode cX1_wearBy 2 = .ok (.aload_n 0, 1) := by decide +kernel
theorem dX1_wearBy_3 : decode cX1_wearBy 3 = .ok (.getfield 15, 3) := by decide +kernel
theorem dX1_wearBy_6 : decode cX1_wearBy 6 = .ok (.iload_n 1, 1) := by decide +kernel
theorem dX1_wearBy_7 : decode cX1_wearBy 7 = .ok (.isub, 1) := by decide +kernel
theorem dX1_wearBy_8 : decode cX1_wearBy 8 = .ok (.invokestatic 25, 3) := by decide +kernel
theorem dX1_wearBy_11 : decode cX1_wearBy 11 = .ok (.putfield 15, 3) := by decide +kernel
theorem dX1_wearBy_14 : decode cX1_wearBy 14 = .ok (.return_, 1) := by decide +kernel
theorem dX2_init_0 : decode cX2_init 0 = .ok (.aload_n 0, 1) := by decide +kernel
theorem dX2_init_1 : decode cX2_init 1 = .ok (.invokespecial 3, 3) := by decide +kernel
theorem dX2_init_4 : decode cX2_init 4 = .ok (.aload_n 0, 1) := by decide +kernel
theorem dX2_init_5 : decode cX2_init 5 = .ok (.sipush 256, 3) := by decide +kernel
theorem dX2_init_8 : decode cX2_init 8 = .ok (.newarray .int, 2) := by decide +kernel
theorem dX2_init_10 : decode cX2_init 10 = .ok (.putfield 9, 3) := by decide +kernel
theorem dX2_init_13 : decode cX2_init 13 = .ok (.aload_n 0, 1) := by decide +kernel
theorem dX2_init_14 : decode cX2_init 14 = .ok (.sipush 256, 3) := by decide +kernel
theorem dX2_init_17 : decode cX2_init 17 = .ok (.newarray .int, 2) := by decide +kernel
theorem dX2_init_19 : decode cX2_init 19 = .ok (.putfield 15, 3) := by decide +kernel
theorem dX2_init_22 : decode cX2_init 22 = .ok (.aload_n 0, 1) := by decide +kernel
theorem dX2_init_23 : decode cX2_init 23 = .ok (.sipush 256, 3) := by decide +kernel
theorem dX2_init_26 : decode cX2_init 26 = .ok (.newarray .int, 2) := by decide +kernel
theorem dX2_init_28 : decode cX2_init 28 = .ok (.putfield 18, 3) := by decide +kernel
theorem dX2_init_31 : decode cX2_init 31 = .ok (.return_, 1) := by decide +kernel
set_option maxRecDepth 20000 in
theorem ggX2_exploreFrom_J7_fill_53178 : GoodIn wsX2_exploreFrom wsJ7_fill_53178 := goodIn_r _ [7] (by decide +kernel) (by decide +kernel)
set_option maxRecDepth 20000 in
theorem gX2_exploreFrom_J7_fill_53178 : GoodIn wsX2_exploreFrom (va_wsS RX2 21 yJ7_fill_53178 wsJ7_fill_53178) := goodIn_app (goodIn_of _ (by decide +kernel)) ggX2_exploreFrom_J7_fill_53178
set_option maxRecDepth 20000 in
theorem ggX2_exploreFrom_X2_behind : GoodIn wsX2_exploreFrom wsX2_behind := goodIn_r _ [11, 12, 13, 10, 14] (by decide +kernel) (by decide +kernel)
set_option maxRecDepth 20000 in
theorem gX2_exploreFrom_X2_behind : GoodIn wsX2_exploreFrom (va_wsS RX2 27 yX2_behind wsX2_behind) := goodIn_app (goodIn_of _ (by decide +kernel)) ggX2_exploreFrom_X2_behind
theorem dX2_exploreFrom_0 : decode cX2_exploreFrom 0 = .ok (.aload_n 0, 1) := by decide +kernel
theorem dX2_exploreFrom_1 : decode cX2_exploreFrom 1 = .ok (.getfield 9, 3) := by decide +kernel
theorem dX2_exploreFrom_4 : decode cX2_exploreFrom 4 = .ok (.iconst (-1), 1) := by decide +kernel
theorem dX2_exploreFrom_5 : decode cX2_exploreFrom 5 = .ok (.invokestatic 21, 3) := by decide +kernel
theorem dX2_exploreFrom_8 : decode cX2_exploreFrom 8 = .ok (.aload_n 0, 1) := by decide +kernel
theorem dX2_exploreFrom_9 : decode cX2_exploreFrom 9 = .ok (.getfield 15, 3) := by decide +kernel
theorem dX2_exploreFrom_12 : decode cX2_exploreFrom 12 = .ok (.iconst (-1), 1) := by decide +kernel
theorem dX2_exploreFrom_13 : decode cX2_exploreFrom 13 = .ok (.invokestatic 21, 3) := by decide +kernel
theorem dX2_exploreFrom_16 : decode cX2_exploreFrom 16 = .ok (.iload_n 1, 1) := by decide +kernel
theorem dX2_exploreFrom_17 : decode cX2_exploreFrom 17 = .ok (.sipush 255, 3) := by decide +kernel
theorem dX2_exploreFrom_20 : decode cX2_exploreFrom 20 = .ok (.iand, 1) := by decide +kernel
theorem dX2_exploreFrom_21 : decode cX2_exploreFrom 21 = .ok (.istore_n 2, 1) := by decide +kernel
theorem dX2_exploreFrom_22 : decode cX2_exploreFrom 22 = .ok (.aload_n 0, 1) := by decide +kernel
theorem dX2_exploreFrom_23 : decode cX2_exploreFrom 23 = .ok (.getfield 9, 3) := by decide +kernel
theorem dX2_exploreFrom_26 : decode cX2_exploreFrom 26 = .ok (.iload_n 2, 1) := by decide +kernel
theorem dX2_exploreFrom_27 : decode cX2_exploreFrom 27 = .ok (.iconst 0, 1) := by decide +kernel
theorem dX2_exploreFrom_28 : decode cX2_exploreFrom 28 = .ok (.iastore, 1) := by decide +kernel
theorem dX2_exploreFrom_29 : decode cX2_exploreFrom 29 = .ok (.aload_n 0, 1) := by decide +kernel
theorem dX2_exploreFrom_30 : decode cX2_exploreFrom 30 = .ok (.getfield 18, 3) := by decide +kernel
theorem dX2_exploreFrom_33 : decode cX2_exploreFrom 33 = .ok (.iconst 0, 1) := by decide +kernel
theorem dX2_exploreFrom_34 : decode cX2_exploreFrom 34 = .ok (.iload_n 2, 1) := by decide +kernel
theorem dX2_exploreFrom_35 : decode cX2_exploreFrom 35 = .ok (.iastore, 1) := by decide +kernel
theorem dX2_exploreFrom_36 : decode cX2_exploreFrom 36 = .ok (.iconst 1, 1) := by decide +kernel
theorem dX2_exploreFrom_37 : decode cX2_exploreFrom 37 = .ok (.istore_n 3, 1) := by decide +kernel
theorem dX2_exploreFrom_38 : decode cX2_exploreFrom 38 = .ok (.iconst 0, 1) := by decide +kernel
theorem dX2_exploreFrom_39 : decode cX2_exploreFrom 39 = .ok (.istore 4, 2) := by decide +kernel
theorem dX2_exploreFrom_41 : decode cX2_exploreFrom 41 = .ok (.iload 4, 2) := by decide +kernel
theorem dX2_exploreFrom_43 : decode cX2_exploreFrom 43 = .ok (.iload_n 3, 1) := by decide +kernel
theorem dX2_exploreFrom_44 : decode cX2_exploreFrom 44 = .ok (.if_icmp .ge 119, 3) := by decide +kernel
theorem dX2_exploreFrom_47 : decode cX2_exploreFrom 47 = .ok (.iload 4, 2) := by decide +kernel
theorem dX2_exploreFrom_49 : decode cX2_exploreFrom 49 = .ok (.sipush 256, 3) := by decide +kernel
theorem dX2_exploreFrom_52 : decode cX2_exploreFrom 52 = .ok (.if_icmp .ge 111, 3) := by decide +kernel
theorem dX2_exploreFrom_55 : decode cX2_exploreFrom 55 = .ok (.aload_n 0, 1) := by decide +kernel
theorem dX2_exploreFrom_56 : decode cX2_exploreFrom 56 = .ok (.getfield 18, 3) := by decide +kernel
theorem dX2_exploreFrom_59 : decode cX2_exploreFrom 59 = .ok (.iload 4, 2) := by decide +kernel
theorem dX2_exploreFrom_61 : decode cX2_exploreFrom 61 = .ok (.iaload, 1) := by decide +kernel
theorem dX2_exploreFrom_62 : decode cX2_exploreFrom 62 = .ok (.istore 5, 2) := by decide +kernel
theorem dX2_exploreFrom_64 : decode cX2_exploreFrom 64 = .ok (.iconst 0, 1) := by decide +kernel
theorem dX2_exploreFrom_65 : decode cX2_exploreFrom 65 = .ok (.istore 6, 2) := by decide +kernel
theorem dX2_exploreFrom_67 : decode cX2_exploreFrom 67 = .ok (.iload 6, 2) := by decide +kernel
theorem dX2_exploreFrom_69 : decode cX2_exploreFrom 69 = .ok (.iconst 2, 1) := by decide +kernel
theorem dX2_exploreFrom_70 : decode cX2_exploreFrom 70 = .ok (.if_icmp .gt 87, 3) := by decide +kernel
theorem dX2_exploreFrom_73 : decode cX2_exploreFrom 73 = .ok (.iload 5, 2) := by decide +kernel
theorem dX2_exploreFrom_75 : decode cX2_exploreFrom 75 = .ok (.iload 6, 2) := by decide +kernel
theorem dX2_exploreFrom_77 : decode cX2_exploreFrom 77 = .ok (.invokestatic 27, 3) := by decide +kernel
theorem dX2_exploreFrom_80 : decode cX2_exploreFrom 80 = .ok (.istore 7, 2) := by decide +kernel
theorem dX2_exploreFrom_82 : decode cX2_exploreFrom 82 = .ok (.aload_n 0, 1) := by decide +kernel
theorem dX2_exploreFrom_83 : decode cX2_exploreFrom 83 = .ok (.getfield 9, 3) := by decide +kernel
theorem dX2_exploreFrom_86 : decode cX2_exploreFrom 86 = .ok (.iload 7, 2) := by decide +kernel
theorem dX2_exploreFrom_88 : decode cX2_exploreFrom 88 = .ok (.iaload, 1) := by decide +kernel
theorem dX2_exploreFrom_89 : decode cX2_exploreFrom 89 = .ok (.iconst (-1), 1) := by decide +kernel
theorem dX2_exploreFrom_90 : decode cX2_exploreFrom 90 = .ok (.if_icmp .ne 61, 3) := by decide +kernel
theorem dX2_exploreFrom_93 : decode cX2_exploreFrom 93 = .ok (.iload_n 3, 1) := by decide +kernel
theorem dX2_exploreFrom_94 : decode cX2_exploreFrom 94 = .ok (.sipush 256, 3) := by decide +kernel
theorem dX2_exploreFrom_97 : decode cX2_exploreFrom 97 = .ok (.if_icmp .ge 54, 3) := by decide +kernel
theorem dX2_exploreFrom_100 : decode cX2_exploreFrom 100 = .ok (.aload_n 0, 1) := by decide +kernel
theorem dX2_exploreFrom_101 : decode cX2_exploreFrom 101 = .ok (.getfield 9, 3) := by decide +kernel
theorem dX2_exploreFrom_104 : decode cX2_exploreFrom 104 = .ok (.iload 7, 2) := by decide +kernel
theorem dX2_exploreFrom_106 : decode cX2_exploreFrom 106 = .ok (.aload_n 0, 1) := by decide +kernel
theorem dX2_exploreFrom_107 : decode cX2_exploreFrom 107 = .ok (.getfield 9, 3) := by decide +kernel
theorem dX2_exploreFrom_110 : decode cX2_exploreFrom 110 = .ok (.iload 5, 2) := by decide +kernel
theorem dX2_exploreFrom_112 : decode cX2_exploreFrom 112 = .ok (.iaload, 1) := by decide +kernel
theorem dX2_exploreFrom_113 : decode cX2_exploreFrom 113 = .ok (.iconst 1, 1) := by decide +kernel
theorem dX2_exploreFrom_114 : decode cX2_exploreFrom 114 = .ok (.iadd, 1) := by decide +kernel
theorem dX2_exploreFrom_115 : decode cX2_exploreFrom 115 = .ok (.iastore, 1) := by decide +kernel
theorem dX2_exploreFrom_116 : decode cX2_exploreFrom 116 = .ok (.aload_n 0, 1) := by decide +kernel
theorem dX2_exploreFrom_117 : decode cX2_exploreFrom 117 = .ok (.getfield 15, 3) := by decide +kernel
theorem dX2_exploreFrom_120 : decode cX2_exploreFrom 120 = .ok (.iload 7, 2) := by decide +kernel
theorem dX2_exploreFrom_122 : decode cX2_exploreFrom 122 = .ok (.iload 4, 2) := by decide +kernel
theorem dX2_exploreFrom_124 : decode cX2_exploreFrom 124 = .ok (.ifCond .ne 8, 3) := by decide +kernel
theorem dX2_exploreFrom_127 : decode cX2_exploreFrom 127 = .ok (.iload 6, 2) := by decide +kernel
theorem dX2_exploreFrom_129 : decode cX2_exploreFrom 129 = .ok (.goto 10, 3) := by decide +kernel
theorem dX2_exploreFrom_132 : decode cX2_exploreFrom 132 = .ok (.aload_n 0, 1) := by decide +kernel
theorem dX2_exploreFrom_133 : decode cX2_exploreFrom 133 = .ok (.getfield 15, 3) := by decide +kernel
theorem dX2_exploreFrom_136 : decode cX2_exploreFrom 136 = .ok (.iload 5, 2) := by decide +kernel
theorem dX2_exploreFrom_138 : decode cX2_exploreFrom 138 = .ok (.iaload, 1) := by decide +kernel
theorem dX2_exploreFrom_139 : decode cX2_exploreFrom 139 = .ok (.iastore, 1) := by decide +kernel
theorem dX2_exploreFrom_140 : decode cX2_exploreFrom 140 = .ok (.aload_n 0, 1) := by decide +kernel
theorem dX2_exploreFrom_141 : decode cX2_exploreFrom 141 = .ok (.getfield 18, 3) := by decide +kernel
theorem dX2_exploreFrom_144 : decode cX2_exploreFrom 144 = .ok (.iload_n 3, 1) := by decide +kernel
theorem dX2_exploreFrom_145 : decode cX2_exploreFrom 145 = .ok (.iload 7, 2) := by decide +kernel
theorem dX2_exploreFrom_147 : decode cX2_exploreFrom 147 = .ok (.iastore, 1) := by decide +kernel
theorem dX2_exploreFrom_148 : decode cX2_exploreFrom 148 = .ok (.iinc 3 1, 3) := by decide +kernel
theorem dX2_exploreFrom_151 : decode cX2_exploreFrom 151 = .ok (.iinc 6 1, 3) := by decide +kernel
theorem dX2_exploreFrom_154 : decode cX2_exploreFrom 154 = .ok (.goto (-87), 3) := by decide +kernel
theorem dX2_exploreFrom_157 : decode cX2_exploreFrom 157 = .ok (.iinc 4 1, 3) := by decide +kernel
theorem dX2_exploreFrom_160 : decode cX2_exploreFrom 160 = .ok (.goto (-119), 3) := by decide +kernel
theorem dX2_exploreFrom_163 : decode cX2_exploreFrom 163 = .ok (.return_, 1) := by decide +kernel
set_option maxRecDepth 20000 in
theorem ggX2_behind_X2_folded : GoodIn wsX2_behind wsX2_folded := goodIn_r _ [4] (by decide +kernel) (by decide +kernel)
set_option maxRecDepth 20000 in
theorem gX2_behind_X2_folded : GoodIn wsX2_behind (va_wsS RX2 31 yX2_folded wsX2_folded) := goodIn_app (goodIn_of _ (by decide +kernel)) ggX2_behind_X2_folded
theorem dX2_behind_0 : decode cX2_behind 0 = .ok (.iload_n 1, 1) := by decide +kernel
theorem dX2_behind_1 : decode cX2_behind 1 = .ok (.ifCond .ne 8, 3) := by decide +kernel
theorem dX2_behind_4 : decode cX2_behind 4 = .ok (.iload_n 0, 1) := by decide +kernel
theorem dX2_behind_5 : decode cX2_behind 5 = .ok (.invokestatic 31, 3) := by decide +kernel
theorem dX2_behind_8 : decode cX2_behind 8 = .ok (.ireturn, 1) := by decide +kernel
theorem dX2_behind_9 : decode cX2_behind 9 = .ok (.iload_n 1, 1) := by decide +kernel
theorem dX2_behind_10 : decode cX2_behind 10 = .ok (.iconst 1, 1) := by decide +kernel
theorem dX2_behind_11 : decode cX2_behind 11 = .ok (.if_icmp .ne 7, 3) := by decide +kernel
theorem dX2_behind_14 : decode cX2_behind 14 = .ok (.iconst 1, 1) := by decide +kernel
theorem dX2_behind_15 : decode cX2_behind 15 = .ok (.goto 4, 3) := by decide +kernel
theorem dX2_behind_18 : decode cX2_behind 18 = .ok (.iconst 4, 1) := by decide +kernel
theorem dX2_behind_19 : decode cX2_behind 19 = .ok (.istore_n 2, 1) := by decide +kernel
theorem dX2_behind_20 : decode cX2_behind 20 = .ok (.iload_n 0, 1) := by decide +kernel
theorem dX2_behind_21 : decode cX2_behind 21 = .ok (.iload_n 2, 1) := by decide +kernel
theorem dX2_behind_22 : decode cX2_behind 22 = .ok (.ishl, 1) := by decide +kernel
theorem dX2_behind_23 : decode cX2_behind 23 = .ok (.iload_n 0, 1) := by decide +kernel
theorem dX2_behind_24 : decode cX2_behind 24 = .ok (.bipush 8, 2) := by decide +kernel
theorem dX2_behind_26 : decode cX2_behind 26 = .ok (.iload_n 2, 1) := by decide +kernel
theorem dX2_behind_27 : decode cX2_behind 27 = .ok (.isub, 1) := by decide +kernel
theorem dX2_behind_28 : decode cX2_behind 28 = .ok (.iushr, 1) := by decide +kernel
theorem dX2_behind_29 : decode cX2_behind 29 = .ok (.ior, 1) := by decide +kernel
theorem dX2_behind_30 : decode cX2_behind 30 = .ok (.sipush 255, 3) := by decide +kernel
theorem dX2_behind_33 : decode cX2_behind 33 = .ok (.iand, 1) := by decide +kernel
theorem dX2_behind_34 : decode cX2_behind 34 = .ok (.ireturn, 1) := by decide +kernel
theorem dX2_folded_0 : decode cX2_folded 0 = .ok (.iconst 0, 1) := by decide +kernel
theorem dX2_folded_1 : decode cX2_folded 1 = .ok (.istore_n 1, 1) := by decide +kernel
theorem dX2_folded_2 : decode cX2_folded 2 = .ok (.iconst 0, 1) := by decide +kernel
theorem dX2_folded_3 : decode cX2_folded 3 = .ok (.istore_n 2, 1) := by decide +kernel
theorem dX2_folded_4 : decode cX2_folded 4 = .ok (.iload_n 2, 1) := by decide +kernel
theorem dX2_folded_5 : decode cX2_folded 5 = .ok (.iconst 4, 1) := by decide +kernel
theorem dX2_folded_6 : decode cX2_folded 6 = .ok (.if_icmp .ge 42, 3) := by decide +kernel
theorem dX2_folded_9 : decode cX2_folded 9 = .ok (.iload_n 0, 1) := by decide +kernel
theorem dX2_folded_10 : decode cX2_folded 10 = .ok (.iload_n 2, 1) := by decide +kernel
theorem dX2_folded_11 : decode cX2_folded 11 = .ok (.iushr, 1) := by decide +kernel
theorem dX2_folded_12 : decode cX2_folded 12 = .ok (.iconst 1, 1) := by decide +kernel
theorem dX2_folded_13 : decode cX2_folded 13 = .ok (.iand, 1) := by decide +kernel
theorem dX2_folded_14 : decode cX2_folded 14 = .ok (.istore_n 3, 1) := by decide +kernel
theorem dX2_folded_15 : decode cX2_folded 15 = .ok (.iload_n 0, 1) := by decide +kernel
theorem dX2_folded_16 : decode cX2_folded 16 = .ok (.bipush 7, 2) := by decide +kernel
theorem dX2_folded_18 : decode cX2_folded 18 = .ok (.iload_n 2, 1) := by decide +kernel
theorem dX2_folded_19 : decode cX2_folded 19 = .ok (.isub, 1) := by decide +kernel
theorem dX2_folded_20 : decode cX2_folded 20 = .ok (.iushr, 1) := by decide +kernel
theorem dX2_folded_21 : decode cX2_folded 21 = .ok (.iconst 1, 1) := by decide +kernel
theorem dX2_folded_22 : decode cX2_folded 22 = .ok (.iand, 1) := by decide +kernel
theorem dX2_folded_23 : decode cX2_folded 23 = .ok (.istore 4, 2) := by decide +kernel
theorem dX2_folded_25 : decode cX2_folded 25 = .ok (.iload_n 1, 1) := by decide +kernel
theorem dX2_folded_26 : decode cX2_folded 26 = .ok (.iload_n 3, 1) := by decide +kernel
theorem dX2_folded_27 : decode cX2_folded 27 = .ok (.iconst 2, 1) := by decide +kernel
theorem dX2_folded_28 : decode cX2_folded 28 = .ok (.iload_n 2, 1) := by decide +kernel
theorem dX2_folded_29 : decode cX2_folded 29 = .ok (.imul, 1) := by decide +kernel
theorem dX2_folded_30 : decode cX2_folded 30 = .ok (.ishl, 1) := by decide +kernel
theorem dX2_folded_31 : decode cX2_folded 31 = .ok (.iload 4, 2) := by decide +kernel
theorem dX2_folded_33 : decode cX2_folded 33 = .ok (.iconst 2, 1) := by decide +kernel
theorem dX2_folded_34 : decode cX2_folded 34 = .ok (.iload_n 2, 1) := by decide +kernel
theorem dX2_folded_35 : decode cX2_folded 35 = .ok (.imul, 1) := by decide +kernel
theorem dX2_folded_36 : decode cX2_folded 36 = .ok (.iconst 1, 1) := by decide +kernel
theorem dX2_folded_37 : decode cX2_folded 37 = .ok (.iadd, 1) := by decide +kernel
theorem dX2_folded_38 : decode cX2_folded 38 = .ok (.ishl, 1) := by decide +kernel
theorem dX2_folded_39 : decode cX2_folded 39 = .ok (.ior, 1) := by decide +kernel
theorem dX2_folded_40 : decode cX2_folded 40 = .ok (.ior, 1) := by decide +kernel
theorem dX2_folded_41 : decode cX2_folded 41 = .ok (.istore_n 1, 1) := by decide +kernel
theorem dX2_folded_42 : decode cX2_folded 42 = .ok (.iinc 2 1, 3) := by decide +kernel
theorem dX2_folded_45 : decode cX2_folded 45 = .ok (.goto (-41), 3) := by decide +kernel
theorem dX2_folded_48 : decode cX2_folded 48 = .ok (.iload_n 1, 1) := by decide +kernel
theorem dX2_folded_49 : decode cX2_folded 49 = .ok (.ireturn, 1) := by decide +kernel
theorem dX3_init_0 : decode cX3_init 0 = .ok (.aload_n 0, 1) := by decide +kernel
theorem dX3_init_1 : decode cX3_init 1 = .ok (.invokespecial 3, 3) := by decide +kernel
theorem dX3_init_4 : decode cX3_init 4 = .ok (.aload_n 0, 1) := by decide +kernel
theorem dX3_init_5 : decode cX3_init 5 = .ok (.bipush 12, 2) := by decide +kernel
theorem dX3_init_7 : decode cX3_init 7 = .ok (.newarray .int, 2) := by decide +kernel
theorem dX3_init_9 : decode cX3_init 9 = .ok (.putfield 9, 3) := by decide +kernel
theorem dX3_init_12 : decode cX3_init 12 = .ok (.aload_n 0, 1) := by decide +kernel
theorem dX3_init_13 : decode cX3_init 13 = .ok (.sipush 200, 3) := by decide +kernel
theorem dX3_init_16 : decode cX3_init 16 = .ok (.putfield 15, 3) := by decide +kernel
theorem dX3_init_19 : decode cX3_init 19 = .ok (.return_, 1) := by decide +kernel
theorem dX3_add_0 : decode cX3_add 0 = .ok (.aload_n 0, 1) := by decide +kernel
theorem dX3_add_1 : decode cX3_add 1 = .ok (.getfield 19, 3) := by decide +kernel
theorem dX3_add_4 : decode cX3_add 4 = .ok (.bipush 12, 2) := by decide +kernel
theorem dX3_add_6 : decode cX3_add 6 = .ok (.if_icmp .lt 4, 3) := by decide +kernel
theorem dX3_add_9 : decode cX3_add 9 = .ok (.return_, 1) := by decide +kernel
theorem dX3_add_10 : decode cX3_add 10 = .ok (.aload_n 0, 1) := by decide +kernel
theorem dX3_add_11 : decode cX3_add 11 = .ok (.getfield 19, 3) := by decide +kernel
theorem dX3_add_14 : decode cX3_add 14 = .ok (.istore_n 2, 1) := by decide +kernel
theorem dX3_add_15 : decode cX3_add 15 = .ok (.iload_n 2, 1) := by decide +kernel
theorem dX3_add_16 : decode cX3_add 16 = .ok (.ifCond .le 35, 3) := by decide +kernel
theorem dX3_add_19 : decode cX3_add 19 = .ok (.aload_n 0, 1) := by decide +kernel
theorem dX3_add_20 : decode cX3_add 20 = .ok (.getfield 9, 3) := by decide +kernel
theorem dX3_add_23 : decode cX3_add 23 = .ok (.iload_n 2, 1) := by decide +kernel
theorem dX3_add_24 : decode cX3_add 24 = .ok (.iconst 1, 1) := by decide +kernel
theorem dX3_add_25 : decode cX3_add 25 = .ok (.isub, 1) := by decide +kernel
theorem dX3_add_26 : decode cX3_add 26 = .ok (.iaload, 1) := by decide +kernel
theorem dX3_add_27 : decode cX3_add 27 = .ok (.iload_n 1, 1) := by decide +kernel
theorem dX3_add_28 : decode cX3_add 28 = .ok (.if_icmp .le 23, 3) := by decide +kernel
theorem dX3_add_31 : decode cX3_add 31 = .ok (.aload_n 0, 1) := by decide +kernel
theorem dX3_add_32 : decode cX3_add 32 = .ok (.getfield 9, 3) := by decide +kernel
theorem dX3_add_35 : decode cX3_add 35 = .ok (.iload_n 2, 1) := by decide +kernel
theorem dX3_add_36 : decode cX3_add 36 = .ok (.aload_n 0, 1) := by decide +kernel
theorem dX3_add_37 : decode cX3_add 37 = .ok (.getfield 9, 3) := by decide +kernel
theorem dX3_add_40 : decode cX3_add 40 = .ok (.iload_n 2, 1) := by decide +kernel
theorem dX3_add_41 : decode cX3_add 41 = .ok (.iconst 1, 1) := by decide +kernel
theorem dX3_add_42 : decode cX3_add 42 = .ok (.isub, 1) := by decide +kernel
theorem dX3_add_43 : decode cX3_add 43 = .ok (.iaload, 1) := by decide +kernel
theorem dX3_add_44 : decode cX3_add 44 = .ok (.iastore, 1) := by decide +kernel
theorem dX3_add_45 : decode cX3_add 45 = .ok (.iinc 2 (-1), 3) := by decide +kernel
theorem dX3_add_48 : decode cX3_add 48 = .ok (.goto (-33), 3) := by decide +kernel
theorem dX3_add_51 : decode cX3_add 51 = .ok (.aload_n 0, 1) := by decide +kernel
theorem dX3_add_52 : decode cX3_add 52 = .ok (.getfield 9, 3) := by decide +kernel
theorem dX3_add_55 : decode cX3_add 55 = .ok (.iload_n 2, 1) := by decide +kernel
theorem dX3_add_56 : decode cX3_add 56 = .ok (.iload_n 1, 1) := by decide +kernel
theorem dX3_add_57 : decode cX3_add 57 = .ok (.iastore, 1) := by decide +kernel
theorem dX3_add_58 : decode cX3_add 58 = .ok (.aload_n 0, 1) := by decide +kernel
theorem dX3_add_59 : decode cX3_add 59 = .ok (.dup, 1) := by decide +kernel
theorem dX3_add_60 : decode cX3_add 60 = .ok (.getfield 19, 3) := by decide +kernel
theorem dX3_add_63 : decode cX3_add 63 = .ok (.iconst 1, 1) := by decide +kernel
theorem dX3_add_64 : decode cX3_add 64 = .ok (.iadd, 1) := by decide +kernel
theorem dX3_add_65 : decode cX3_add 65 = .ok (.putfield 19, 3) := by decide +kernel
theorem dX3_add_68 : decode cX3_add 68 = .ok (.return_, 1) := by decide +kernel
set_option maxRecDepth 20000 in
theorem ggX3_warmthAt_X3_falls : GoodIn wsX3_warmthAt wsX3_falls := goodIn_r _ [7, 2, 1, 8, 9, 10, 6, 11, 12, 13, 14, 15, 16, 17, 18, 19] (by decide +kernel) (by decide +kernel)
set_option maxRecDepth 20000 in
theorem gX3_warmthAt_X3_falls : GoodIn wsX3_warmthAt (wsV RX3 22 RX3 yX3_falls wsX3_falls) := goodIn_app (goodIn_of _ (by decide +kernel)) ggX3_warmthAt_X3_falls
theorem dX3_warmthAt_0 : decode cX3_warmthAt 0 = .ok (.iload_n 1, 1) := by decide +kernel
theorem dX3_warmthAt_1 : decode cX3_warmthAt 1 = .ok (.ifCond .lt 11, 3) := by decide +kernel
theorem dX3_warmthAt_4 : decode cX3_warmthAt 4 = .ok (.iload_n 1, 1) := by decide +kernel
theorem dX3_warmthAt_5 : decode cX3_warmthAt 5 = .ok (.aload_n 0, 1) := by decide +kernel
theorem dX3_warmthAt_6 : decode cX3_warmthAt 6 = .ok (.getfield 19, 3) := by decide +kernel
theorem dX3_warmthAt_9 : decode cX3_warmthAt 9 = .ok (.if_icmp .lt 5, 3) := by decide +kernel
theorem dX3_warmthAt_12 : decode cX3_warmthAt 12 = .ok (.iconst (-1), 1) := by decide +kernel
theorem dX3_warmthAt_13 : decode cX3_warmthAt 13 = .ok (.ireturn, 1) := by decide +kernel
theorem dX3_warmthAt_14 : decode cX3_warmthAt 14 = .ok (.aload_n 0, 1) := by decide +kernel
theorem dX3_warmthAt_15 : decode cX3_warmthAt 15 = .ok (.invokevirtual 22, 3) := by decide +kernel
theorem dX3_warmthAt_18 : decode cX3_warmthAt 18 = .ok (.ifCond .eq 19, 3) := by decide +kernel
theorem dX3_warmthAt_21 : decode cX3_warmthAt 21 = .ok (.aload_n 0, 1) := by decide +kernel
theorem dX3_warmthAt_22 : decode cX3_warmthAt 22 = .ok (.getfield 9, 3) := by decide +kernel
theorem dX3_warmthAt_25 : decode cX3_warmthAt 25 = .ok (.aload_n 0, 1) := by decide +kernel
theorem dX3_warmthAt_26 : decode cX3_warmthAt 26 = .ok (.getfield 19, 3) := by decide +kernel
theorem dX3_warmthAt_29 : decode cX3_warmthAt 29 = .ok (.iconst 1, 1) := by decide +kernel
theorem dX3_warmthAt_30 : decode cX3_warmthAt 30 = .ok (.isub, 1) := by decide +kernel
theorem dX3_warmthAt_31 : decode cX3_warmthAt 31 = .ok (.iload_n 1, 1) := by decide +kernel
theorem dX3_warmthAt_32 : decode cX3_warmthAt 32 = .ok (.isub, 1) := by decide +kernel
theorem dX3_warmthAt_33 : decode cX3_warmthAt 33 = .ok (.iaload, 1) := by decide +kernel
theorem dX3_warmthAt_34 : decode cX3_warmthAt 34 = .ok (.goto 9, 3) := by decide +kernel
theorem dX3_warmthAt_37 : decode cX3_warmthAt 37 = .ok (.aload_n 0, 1) := by decide +kernel
theorem dX3_warmthAt_38 : decode cX3_warmthAt 38 = .ok (.getfield 9, 3) := by decide +kernel
theorem dX3_warmthAt_41 : decode cX3_warmthAt 41 = .ok (.iload_n 1, 1) := by decide +kernel
theorem dX3_warmthAt_42 : decode cX3_warmthAt 42 = .ok (.iaload, 1) := by decide +kernel
theorem dX3_warmthAt_43 : decode cX3_warmthAt 43 = .ok (.ireturn, 1) := by decide +kernel
set_option maxRecDepth 20000 in
theorem ggX3_falls_X3_wayTo : GoodIn wsX3_falls wsX3_wayTo := goodIn_r _ [7, 8, 9, 10, 11, 12, 13, 14, 15] (by decide +kernel) (by decide +kernel)
set_option maxRecDepth 20000 in
theorem gX3_falls_X3_wayTo : GoodIn wsX3_falls (wsV RX3 26 RX3 yX3_wayTo wsX3_wayTo) := goodIn_app (goodIn_of _ (by decide +kernel)) ggX3_falls_X3_wayTo
theorem dX3_falls_0 : decode cX3_falls 0 = .ok (.aload_n 0, 1) := by decide +kernel
theorem dX3_falls_1 : decode cX3_falls 1 = .ok (.aload_n 0, 1) := by decide +kernel
theorem dX3_falls_2 : decode cX3_falls 2 = .ok (.getfield 9, 3) := by decide +kernel
theorem dX3_falls_5 : decode cX3_falls 5 = .ok (.aload_n 0, 1) := by decide +kernel
theorem dX3_falls_6 : decode cX3_falls 6 = .ok (.getfield 19, 3) := by decide +kernel
theorem dX3_falls_9 : decode cX3_falls 9 = .ok (.iconst 1, 1) := by decide +kernel
theorem dX3_falls_10 : decode cX3_falls 10 = .ok (.isub, 1) := by decide +kernel
theorem dX3_falls_11 : decode cX3_falls 11 = .ok (.iaload, 1) := by decide +kernel
theorem dX3_falls_12 : decode cX3_falls 12 = .ok (.invokevirtual 26, 3) := by decide +kernel
theorem dX3_falls_15 : decode cX3_falls 15 = .ok (.aload_n 0, 1) := by decide +kernel
theorem dX3_falls_16 : decode cX3_falls 16 = .ok (.aload_n 0, 1) := by decide +kernel
theorem dX3_falls_17 : decode cX3_falls 17 = .ok (.getfield 9, 3) := by decide +kernel
theorem dX3_falls_20 : decode cX3_falls 20 = .ok (.iconst 0, 1) := by decide +kernel
theorem dX3_falls_21 : decode cX3_falls 21 = .ok (.iaload, 1) := by decide +kernel
theorem dX3_falls_22 : decode cX3_falls 22 = .ok (.invokevirtual 26, 3) := by decide +kernel
theorem dX3_falls_25 : decode cX3_falls 25 = .ok (.if_icmp .ge 7, 3) := by decide +kernel
theorem dX3_falls_28 : decode cX3_falls 28 = .ok (.iconst 1, 1) := by decide +kernel
theorem dX3_falls_29 : decode cX3_falls 29 = .ok (.goto 4, 3) := by decide +kernel
theorem dX3_falls_32 : decode cX3_falls 32 = .ok (.iconst 0, 1) := by decide +kernel
theorem dX3_falls_33 : decode cX3_falls 33 = .ok (.ireturn, 1) := by decide +kernel
theorem dX3_wayTo_0 : decode cX3_wayTo 0 = .ok (.iload_n 1, 1) := by decide +kernel
theorem dX3_wayTo_1 : decode cX3_wayTo 1 = .ok (.aload_n 0, 1) := by decide +kernel
theorem dX3_wayTo_2 : decode cX3_wayTo 2 = .ok (.getfield 15, 3) := by decide +kernel
theorem dX3_wayTo_5 : decode cX3_wayTo 5 = .ok (.isub, 1) := by decide +kernel
theorem dX3_wayTo_6 : decode cX3_wayTo 6 = .ok (.invokestatic 30, 3) := by decide +kernel
theorem dX3_wayTo_9 : decode cX3_wayTo 9 = .ok (.ireturn, 1) := by decide +kernel
set_option maxRecDepth 20000 in
theorem ggX3_carryOut_X3_warmthAt : GoodIn wsX3_carryOut wsX3_warmthAt := goodIn_r _ [11, 1, 12, 13, 14, 15, 10, 16, 17, 18, 19, 20, 6, 2, 3, 4, 5, 21, 22, 23] (by decide +kernel) (by decide +kernel)
set_option maxRecDepth 20000 in
theorem gX3_carryOut_X3_warmthAt : GoodIn wsX3_carryOut (wsV RX3 35 RX3 yX3_warmthAt wsX3_warmthAt) := goodIn_app (goodIn_of _ (by decide +kernel)) ggX3_carryOut_X3_warmthAt
set_option maxRecDepth 20000 in
theorem ggX3_carryOut_X3_wayTo : GoodIn wsX3_carryOut wsX3_wayTo := goodIn_r _ [20, 6, 2, 3, 4, 5, 21, 22, 23] (by decide +kernel) (by decide +kernel)
set_option maxRecDepth 20000 in
theorem gX3_carryOut_X3_wayTo : GoodIn wsX3_carryOut (wsV RX3 26 RX3 yX3_wayTo wsX3_wayTo) := goodIn_app (goodIn_of _ (by decide +kernel)) ggX3_carryOut_X3_wayTo
theorem dX3_carryOut_0 : decode cX3_carryOut 0 = .ok (.aload_n 0, 1) := by decide +kernel
theorem dX3_carryOut_1 : decode cX3_carryOut 1 = .ok (.getfield 19, 3) := by decide +kernel
theorem dX3_carryOut_4 : decode cX3_carryOut 4 = .ok (.ifCond .ne 5, 3) := by decide +kernel
theorem dX3_carryOut_7 : decode cX3_carryOut 7 = .ok (.iconst 0, 1) := by decide +kernel
theorem dX3_carryOut_8 : decode cX3_carryOut 8 = .ok (.ireturn, 1) := by decide +kernel
theorem dX3_carryOut_9 : decode cX3_carryOut 9 = .ok (.aload_n 0, 1) := by decide +kernel
theorem dX3_carryOut_10 : decode cX3_carryOut 10 = .ok (.iconst 0, 1) := by decide +kernel
theorem dX3_carryOut_11 : decode cX3_carryOut 11 = .ok (.invokevirtual 35, 3) := by decide +kernel
theorem dX3_carryOut_14 : decode cX3_carryOut 14 = .ok (.istore_n 1, 1) := by decide +kernel
theorem dX3_carryOut_15 : decode cX3_carryOut 15 = .ok (.aload_n 0, 1) := by decide +kernel
theorem dX3_carryOut_16 : decode cX3_carryOut 16 = .ok (.aload_n 0, 1) := by decide +kernel
theorem dX3_carryOut_17 : decode cX3_carryOut 17 = .ok (.getfield 19, 3) := by decide +kernel
theorem dX3_carryOut_20 : decode cX3_carryOut 20 = .ok (.iconst 1, 1) := by decide +kernel
theorem dX3_carryOut_21 : decode cX3_carryOut 21 = .ok (.isub, 1) := by decide +kernel
theorem dX3_carryOut_22 : decode cX3_carryOut 22 = .ok (.invokevirtual 35, 3) := by decide +kernel
theorem dX3_carryOut_25 : decode cX3_carryOut 25 = .ok (.istore_n 2, 1) := by decide +kernel
theorem dX3_carryOut_26 : decode cX3_carryOut 26 = .ok (.aload_n 0, 1) := by decide +kernel
theorem dX3_carryOut_27 : decode cX3_carryOut 27 = .ok (.iload_n 1, 1) := by decide +kernel
theorem dX3_carryOut_28 : decode cX3_carryOut 28 = .ok (.invokevirtual 26, 3) := by decide +kernel
theorem dX3_carryOut_31 : decode cX3_carryOut 31 = .ok (.iload_n 2, 1) := by decide +kernel
theorem dX3_carryOut_32 : decode cX3_carryOut 32 = .ok (.iload_n 1, 1) := by decide +kernel
theorem dX3_carryOut_33 : decode cX3_carryOut 33 = .ok (.isub, 1) := by decide +kernel
theorem dX3_carryOut_34 : decode cX3_carryOut 34 = .ok (.invokestatic 30, 3) := by decide +kernel
theorem dX3_carryOut_37 : decode cX3_carryOut 37 = .ok (.iadd, 1) := by decide +kernel
theorem dX3_carryOut_38 : decode cX3_carryOut 38 = .ok (.istore_n 3, 1) := by decide +kernel
theorem dX3_carryOut_39 : decode cX3_carryOut 39 = .ok (.aload_n 0, 1) := by decide +kernel
theorem dX3_carryOut_40 : decode cX3_carryOut 40 = .ok (.iload_n 2, 1) := by decide +kernel
theorem dX3_carryOut_41 : decode cX3_carryOut 41 = .ok (.putfield 15, 3) := by decide +kernel
theorem dX3_carryOut_44 : decode cX3_carryOut 44 = .ok (.aload_n 0, 1) := by decide +kernel
theorem dX3_carryOut_45 : decode cX3_carryOut 45 = .ok (.iconst 0, 1) := by decide +kernel
theorem dX3_carryOut_46 : decode cX3_carryOut 46 = .ok (.putfield 19, 3) := by decide +kernel
theorem dX3_carryOut_49 : decode cX3_carryOut 49 = .ok (.iload_n 3, 1) := by decide +kernel
theorem dX3_carryOut_50 : decode cX3_carryOut 50 = .ok (.ireturn, 1) := by decide +kernel
theorem dX4_init_0 : decode cX4_init 0 = .ok (.aload_n 0, 1) := by decide +kernel
theorem dX4_init_1 : decode cX4_init 1 = .ok (.invokespecial 1, 3) := by decide +kernel
theorem dX4_init_4 : decode cX4_init 4 = .ok (.aload_n 0, 1) := by decide +kernel
theorem dX4_init_5 : decode cX4_init 5 = .ok (.iconst 3, 1) := by decide +kernel
theorem dX4_init_6 : decode cX4_init 6 = .ok (.putfield 7, 3) := by decide +kernel
theorem dX4_init_9 : decode cX4_init 9 = .ok (.aload_n 0, 1) := by decide +kernel
theorem dX4_init_10 : decode cX4_init 10 = .ok (.bipush 60, 2) := by decide +kernel
theorem dX4_init_12 : decode cX4_init 12 = .ok (.putfield 13, 3) := by decide +kernel
theorem dX4_init_15 : decode cX4_init 15 = .ok (.aload_n 0, 1) := by decide +kernel
theorem dX4_init_16 : decode cX4_init 16 = .ok (.iconst 4, 1) := by decide +kernel
theorem dX4_init_17 : decode cX4_init 17 = .ok (.putfield 16, 3) := by decide +kernel
theorem dX4_init_20 : decode cX4_init 20 = .ok (.return_, 1) := by decide +kernel
set_option maxRecDepth 20000 in
theorem ggX5_init_Jx4a65c_init_da8c8 : GoodIn wsX5_init wsJx4a65c_init_da8c8 := goodIn_r _ [26, 27, 28, 29, 30, 31, 32, 33, 34, 35, 36, 37, 38, 2, 3, 64, 65, 66] (by decide +kernel) (by decide +kernel)
set_option maxRecDepth 20000 in
theorem gX5_init_Jx4a65c_init_da8c8 : GoodIn wsX5_init (wsJx4a65c_init_da8c8) := ggX5_init_Jx4a65c_init_da8c8
set_option maxRecDepth 20000 in
theorem ggX5_init_X2_init : GoodIn wsX5_init wsX2_init := goodIn_r _ [40, 41, 2, 3, 12, 42, 43, 44, 67, 68, 69] (by decide +kernel) (by decide +kernel)
set_option maxRecDepth 20000 in
theorem gX5_init_X2_init_n34 : GoodIn wsX5_init (wsX2_init) := ggX5_init_X2_init
set_option maxRecDepth 20000 in
theorem ggX5_init_X3_init : GoodIn wsX5_init wsX3_init := goodIn_r _ [46, 47, 2, 3, 12, 48, 49, 70, 71, 72] (by decide +kernel) (by decide +kernel)
set_option maxRecDepth 20000 in
theorem gX5_init_X3_init_n41 : GoodIn wsX5_init (wsX3_init) := ggX5_init_X3_init
set_option maxRecDepth 20000 in
theorem ggX5_init_X4_init : GoodIn wsX5_init wsX4_init := goodIn_r _ [51, 52, 2, 3, 53, 54, 55, 73, 74, 75] (by decide +kernel) (by decide +kernel)
set_option maxRecDepth 20000 in
theorem gX5_init_X4_init_n46 : GoodIn wsX5_init (wsX4_init) := ggX5_init_X4_init
theorem dX5_init_0 : decode cX5_init 0 = .ok (.aload_n 0, 1) := by decide +kernel
theorem dX5_init_1 : decode cX5_init 1 = .ok (.invokespecial 1, 3) := by decide +kernel
theorem dX5_init_4 : decode cX5_init 4 = .ok (.aload_n 0, 1) := by decide +kernel
theorem dX5_init_5 : decode cX5_init 5 = .ok (.iconst 4, 1) := by decide +kernel
theorem dX5_init_6 : decode cX5_init 6 = .ok (.anewarray 9, 3) := by decide +kernel
theorem dX5_init_9 : decode cX5_init 9 = .ok (.putfield 11, 3) := by decide +kernel
theorem dX5_init_12 : decode cX5_init 12 = .ok (.aload_n 0, 1) := by decide +kernel
theorem dX5_init_13 : decode cX5_init 13 = .ok (.new 15, 3) := by decide +kernel
theorem dX5_init_16 : decode cX5_init 16 = .ok (.dup, 1) := by decide +kernel
theorem dX5_init_17 : decode cX5_init 17 = .ok (.invokespecial 17, 3) := by decide +kernel
theorem dX5_init_20 : decode cX5_init 20 = .ok (.putfield 18, 3) := by decide +kernel
theorem dX5_init_23 : decode cX5_init 23 = .ok (.aload_n 0, 1) := by decide +kernel
theorem dX5_init_24 : decode cX5_init 24 = .ok (.new 15, 3) := by decide +kernel
theorem dX5_init_27 : decode cX5_init 27 = .ok (.dup, 1) := by decide +kernel
theorem dX5_init_28 : decode cX5_init 28 = .ok (.invokespecial 17, 3) := by decide +kernel
theorem dX5_init_31 : decode cX5_init 31 = .ok (.putfield 22, 3) := by decide +kernel
theorem dX5_init_34 : decode cX5_init 34 = .ok (.aload_n 0, 1) := by decide +kernel
theorem dX5_init_35 : decode cX5_init 35 = .ok (.new 15, 3) := by decide +kernel
theorem dX5_init_38 : decode cX5_init 38 = .ok (.dup, 1) := by decide +kernel
theorem dX5_init_39 : decode cX5_init 39 = .ok (.invokespecial 17, 3) := by decide +kernel
theorem dX5_init_42 : decode cX5_init 42 = .ok (.putfield 25, 3) := by decide +kernel
theorem dX5_init_45 : decode cX5_init 45 = .ok (.aload_n 0, 1) := by decide +kernel
theorem dX5_init_46 : decode cX5_init 46 = .ok (.bipush 20, 2) := by decide +kernel
theorem dX5_init_48 : decode cX5_init 48 = .ok (.newarray .int, 2) := by decide +kernel
theorem dX5_init_50 : decode cX5_init 50 = .ok (.putfield 28, 3) := by decide +kernel
theorem dX5_init_53 : decode cX5_init 53 = .ok (.aload_n 0, 1) := by decide +kernel
theorem dX5_init_54 : decode cX5_init 54 = .ok (.new 32, 3) := by decide +kernel
theorem dX5_init_57 : decode cX5_init 57 = .ok (.dup, 1) := by decide +kernel
theorem dX5_init_58 : decode cX5_init 58 = .ok (.invokespecial 34, 3) := by decide +kernel
theorem dX5_init_61 : decode cX5_init 61 = .ok (.putfield 35, 3) := by decide +kernel
theorem dX5_init_64 : decode cX5_init 64 = .ok (.aload_n 0, 1) := by decide +kernel
