theorem dX5_init_65 : decode cX5_init 65 = .ok (.new 39, 3) := by decide +kernel
theorem dX5_init_68 : decode cX5_init 68 = .ok (.dup, 1) := by decide +kernel
theorem dX5_init_69 : decode cX5_init 69 = .ok (.invokespecial 41, 3) := by decide +kernel
theorem dX5_init_72 : decode cX5_init 72 = .ok (.putfield 42, 3) := by decide +kernel
theorem dX5_init_75 : decode cX5_init 75 = .ok (.iconst 0, 1) := by decide +kernel
theorem dX5_init_76 : decode cX5_init 76 = .ok (.istore_n 1, 1) := by decide +kernel
theorem dX5_init_77 : decode cX5_init 77 = .ok (.iload_n 1, 1) := by decide +kernel
theorem dX5_init_78 : decode cX5_init 78 = .ok (.iconst 4, 1) := by decide +kernel
theorem dX5_init_79 : decode cX5_init 79 = .ok (.if_icmp .ge 22, 3) := by decide +kernel
theorem dX5_init_82 : decode cX5_init 82 = .ok (.aload_n 0, 1) := by decide +kernel
theorem dX5_init_83 : decode cX5_init 83 = .ok (.getfield 11, 3) := by decide +kernel
theorem dX5_init_86 : decode cX5_init 86 = .ok (.iload_n 1, 1) := by decide +kernel
theorem dX5_init_87 : decode cX5_init 87 = .ok (.new 9, 3) := by decide +kernel
theorem dX5_init_90 : decode cX5_init 90 = .ok (.dup, 1) := by decide +kernel
theorem dX5_init_91 : decode cX5_init 91 = .ok (.invokespecial 46, 3) := by decide +kernel
theorem dX5_init_94 : decode cX5_init 94 = .ok (.aastore, 1) := by decide +kernel
theorem dX5_init_95 : decode cX5_init 95 = .ok (.iinc 1 1, 3) := by decide +kernel
theorem dX5_init_98 : decode cX5_init 98 = .ok (.goto (-21), 3) := by decide +kernel
theorem dX5_init_101 : decode cX5_init 101 = .ok (.return_, 1) := by decide +kernel
set_option maxRecDepth 20000 in
theorem ggX5_steel_X5_steelAt : GoodIn wsX5_steel wsX5_steelAt := goodIn_ca (goodIn_r _ [10, 11, 12, 13, 17, 18, 19, 20, 21, 22, 23, 24] (by decide +kernel) (by decide +kernel)) (goodIn_sub (fun _ h => List.mem_cons_of_mem _ (List.mem_append_right _ h)) (by decide +kernel))
set_option maxRecDepth 20000 in
theorem gX5_steel_X5_steelAt : GoodIn wsX5_steel (wsV RX5 47 RX5 yX5_steelAt wsX5_steelAt) := goodIn_app (goodIn_of _ (by decide +kernel)) ggX5_steel_X5_steelAt
theorem dX5_steel_0 : decode cX5_steel 0 = .ok (.aload_n 0, 1) := by decide +kernel
theorem dX5_steel_1 : decode cX5_steel 1 = .ok (.iload_n 1, 1) := by decide +kernel
theorem dX5_steel_2 : decode cX5_steel 2 = .ok (.invokevirtual 47, 3) := by decide +kernel
theorem dX5_steel_5 : decode cX5_steel 5 = .ok (.astore 5, 2) := by decide +kernel
theorem dX5_steel_7 : decode cX5_steel 7 = .ok (.iload_n 2, 1) := by decide +kernel
theorem dX5_steel_8 : decode cX5_steel 8 = .ok (.iconst 1, 1) := by decide +kernel
theorem dX5_steel_9 : decode cX5_steel 9 = .ok (.if_icmp .lt 9, 3) := by decide +kernel
theorem dX5_steel_12 : decode cX5_steel 12 = .ok (.iload_n 2, 1) := by decide +kernel
theorem dX5_steel_13 : decode cX5_steel 13 = .ok (.bipush 9, 2) := by decide +kernel
theorem dX5_steel_15 : decode cX5_steel 15 = .ok (.if_icmp .le 13, 3) := by decide +kernel
theorem dX5_steel_18 : decode cX5_steel 18 = .ok (.new 51, 3) := by decide +kernel
theorem dX5_steel_21 : decode cX5_steel 21 = .ok (.dup, 1) := by decide +kernel
theorem dX5_steel_22 : decode cX5_steel 22 = .ok (.ldc 53, 2) := by decide +kernel
theorem dX5_steel_24 : decode cX5_steel 24 = .ok (.invokespecial 55, 3) := by decide +kernel
theorem dX5_steel_27 : decode cX5_steel 27 = .ok (.athrow, 1) := by decide +kernel
theorem dX5_steel_28 : decode cX5_steel 28 = .ok (.iload_n 3, 1) := by decide +kernel
theorem dX5_steel_29 : decode cX5_steel 29 = .ok (.bipush 20, 2) := by decide +kernel
theorem dX5_steel_31 : decode cX5_steel 31 = .ok (.if_icmp .lt 9, 3) := by decide +kernel
theorem dX5_steel_34 : decode cX5_steel 34 = .ok (.iload_n 3, 1) := by decide +kernel
theorem dX5_steel_35 : decode cX5_steel 35 = .ok (.bipush 70, 2) := by decide +kernel
theorem dX5_steel_37 : decode cX5_steel 37 = .ok (.if_icmp .le 13, 3) := by decide +kernel
theorem dX5_steel_40 : decode cX5_steel 40 = .ok (.new 51, 3) := by decide +kernel
theorem dX5_steel_43 : decode cX5_steel 43 = .ok (.dup, 1) := by decide +kernel
theorem dX5_steel_44 : decode cX5_steel 44 = .ok (.ldc 58, 2) := by decide +kernel
theorem dX5_steel_46 : decode cX5_steel 46 = .ok (.invokespecial 55, 3) := by decide +kernel
theorem dX5_steel_49 : decode cX5_steel 49 = .ok (.athrow, 1) := by decide +kernel
theorem dX5_steel_50 : decode cX5_steel 50 = .ok (.iload 4, 2) := by decide +kernel
theorem dX5_steel_52 : decode cX5_steel 52 = .ok (.ifCond .lt 10, 3) := by decide +kernel
theorem dX5_steel_55 : decode cX5_steel 55 = .ok (.iload 4, 2) := by decide +kernel
theorem dX5_steel_57 : decode cX5_steel 57 = .ok (.bipush 9, 2) := by decide +kernel
theorem dX5_steel_59 : decode cX5_steel 59 = .ok (.if_icmp .le 13, 3) := by decide +kernel
theorem dX5_steel_62 : decode cX5_steel 62 = .ok (.new 51, 3) := by decide +kernel
theorem dX5_steel_65 : decode cX5_steel 65 = .ok (.dup, 1) := by decide +kernel
theorem dX5_steel_66 : decode cX5_steel 66 = .ok (.ldc 60, 2) := by decide +kernel
theorem dX5_steel_68 : decode cX5_steel 68 = .ok (.invokespecial 55, 3) := by decide +kernel
theorem dX5_steel_71 : decode cX5_steel 71 = .ok (.athrow, 1) := by decide +kernel
theorem dX5_steel_72 : decode cX5_steel 72 = .ok (.aload 5, 2) := by decide +kernel
theorem dX5_steel_74 : decode cX5_steel 74 = .ok (.iload_n 2, 1) := by decide +kernel
theorem dX5_steel_75 : decode cX5_steel 75 = .ok (.putfield 62, 3) := by decide +kernel
theorem dX5_steel_78 : decode cX5_steel 78 = .ok (.aload 5, 2) := by decide +kernel
theorem dX5_steel_80 : decode cX5_steel 80 = .ok (.iload_n 3, 1) := by decide +kernel
theorem dX5_steel_81 : decode cX5_steel 81 = .ok (.putfield 66, 3) := by decide +kernel
theorem dX5_steel_84 : decode cX5_steel 84 = .ok (.aload 5, 2) := by decide +kernel
theorem dX5_steel_86 : decode cX5_steel 86 = .ok (.iload 4, 2) := by decide +kernel
theorem dX5_steel_88 : decode cX5_steel 88 = .ok (.putfield 69, 3) := by decide +kernel
theorem dX5_steel_91 : decode cX5_steel 91 = .ok (.return_, 1) := by decide +kernel
set_option maxRecDepth 20000 in
theorem ggX5_melt_X5_steelAt : GoodIn wsX5_melt wsX5_steelAt := goodIn_ca (goodIn_r _ [8, 9, 10, 11, 72, 73, 74, 75, 76, 77, 78, 79] (by decide +kernel) (by decide +kernel)) (goodIn_sub (fun _ h => List.mem_cons_of_mem _ (List.mem_append_right _ h)) (by decide +kernel))
set_option maxRecDepth 20000 in
theorem gX5_melt_X5_steelAt : GoodIn wsX5_melt (wsV RX5 47 RX5 yX5_steelAt wsX5_steelAt) := goodIn_app (goodIn_of _ (by decide +kernel)) ggX5_melt_X5_steelAt
set_option maxRecDepth 20000 in
theorem ggX5_melt_Jx4a65c_size_8abf5 : GoodIn wsX5_melt wsJx4a65c_size_8abf5 := goodIn_r _ [16, 17, 80, 81, 82] (by decide +kernel) (by decide +kernel)
set_option maxRecDepth 20000 in
theorem gX5_melt_Jx4a65c_size_8abf5 : GoodIn wsX5_melt (wsV RX5 72 RJx4a65c yJx4a65c_size_8abf5 wsJx4a65c_size_8abf5) := goodIn_app (goodIn_of _ (by decide +kernel)) ggX5_melt_Jx4a65c_size_8abf5
set_option maxRecDepth 20000 in
theorem ggX5_melt_Jx4a65c_add_9ea2d : GoodIn wsX5_melt wsJx4a65c_add_9ea2d := goodIn_r _ [21, 22, 23, 24, 17, 25, 26, 27, 15, 28, 29, 30, 31, 32, 33, 34, 35, 36, 37, 38, 39, 40, 41, 42, 43, 44, 45, 46, 47, 48, 49, 50, 51, 52, 53, 54, 55, 56, 57, 58, 59, 60, 61, 62, 63, 64, 65, 66, 67, 68, 69, 70, 71, 80, 81, 82] (by decide +kernel) (by decide +kernel)
set_option maxRecDepth 20000 in
theorem gX5_melt_Jx4a65c_add_9ea2d : GoodIn wsX5_melt (wsV RX5 81 RJx4a65c yJx4a65c_add_9ea2d wsJx4a65c_add_9ea2d) := goodIn_app (goodIn_of _ (by decide +kernel)) ggX5_melt_Jx4a65c_add_9ea2d
theorem dX5_melt_0 : decode cX5_melt 0 = .ok (.aload_n 0, 1) := by decide +kernel
theorem dX5_melt_1 : decode cX5_melt 1 = .ok (.iload_n 1, 1) := by decide +kernel
theorem dX5_melt_2 : decode cX5_melt 2 = .ok (.invokevirtual 47, 3) := by decide +kernel
theorem dX5_melt_5 : decode cX5_melt 5 = .ok (.astore_n 2, 1) := by decide +kernel
theorem dX5_melt_6 : decode cX5_melt 6 = .ok (.aload_n 0, 1) := by decide +kernel
theorem dX5_melt_7 : decode cX5_melt 7 = .ok (.getfield 18, 3) := by decide +kernel
theorem dX5_melt_10 : decode cX5_melt 10 = .ok (.invokevirtual 72, 3) := by decide +kernel
theorem dX5_melt_13 : decode cX5_melt 13 = .ok (.istore_n 3, 1) := by decide +kernel
theorem dX5_melt_14 : decode cX5_melt 14 = .ok (.iload_n 3, 1) := by decide +kernel
theorem dX5_melt_15 : decode cX5_melt 15 = .ok (.bipush 20, 2) := by decide +kernel
theorem dX5_melt_17 : decode cX5_melt 17 = .ok (.if_icmp .lt 13, 3) := by decide +kernel
theorem dX5_melt_20 : decode cX5_melt 20 = .ok (.new 76, 3) := by decide +kernel
theorem dX5_melt_23 : decode cX5_melt 23 = .ok (.dup, 1) := by decide +kernel
theorem dX5_melt_24 : decode cX5_melt 24 = .ok (.ldc 78, 2) := by decide +kernel
theorem dX5_melt_26 : decode cX5_melt 26 = .ok (.invokespecial 80, 3) := by decide +kernel
theorem dX5_melt_29 : decode cX5_melt 29 = .ok (.athrow, 1) := by decide +kernel
theorem dX5_melt_30 : decode cX5_melt 30 = .ok (.aload_n 0, 1) := by decide +kernel
theorem dX5_melt_31 : decode cX5_melt 31 = .ok (.getfield 18, 3) := by decide +kernel
theorem dX5_melt_34 : decode cX5_melt 34 = .ok (.aload_n 2, 1) := by decide +kernel
theorem dX5_melt_35 : decode cX5_melt 35 = .ok (.invokevirtual 81, 3) := by decide +kernel
theorem dX5_melt_38 : decode cX5_melt 38 = .ok (.pop, 1) := by decide +kernel
theorem dX5_melt_39 : decode cX5_melt 39 = .ok (.iload_n 3, 1) := by decide +kernel
theorem dX5_melt_40 : decode cX5_melt 40 = .ok (.ireturn, 1) := by decide +kernel
set_option maxRecDepth 20000 in
theorem ggX5_billet_Jx4a65c_size_8abf5 : GoodIn wsX5_billet wsJx4a65c_size_8abf5 := goodIn_r _ [17, 18, 137, 138, 139] (by decide +kernel) (by decide +kernel)
set_option maxRecDepth 20000 in
theorem gX5_billet_Jx4a65c_size_8abf5 : GoodIn wsX5_billet (wsV RX5 72 RJx4a65c yJx4a65c_size_8abf5 wsJx4a65c_size_8abf5) := goodIn_app (goodIn_of _ (by decide +kernel)) ggX5_billet_Jx4a65c_size_8abf5
set_option maxRecDepth 20000 in
theorem ggX5_billet_Jx4a65c_get_915e3 : GoodIn wsX5_billet wsJx4a65c_get_915e3 := goodIn_r _ [22, 18, 23, 24, 25, 26, 27, 28, 29, 30, 31, 32, 33, 16, 34, 35, 137, 138, 139] (by decide +kernel) (by decide +kernel)
set_option maxRecDepth 20000 in
theorem gX5_billet_Jx4a65c_get_915e3 : GoodIn wsX5_billet (wsV RX5 96 RJx4a65c yJx4a65c_get_915e3 wsJx4a65c_get_915e3) := goodIn_app (goodIn_of _ (by decide +kernel)) ggX5_billet_Jx4a65c_get_915e3
set_option maxRecDepth 20000 in
theorem ggX5_billet_X0_init : GoodIn wsX5_billet wsX0_init := goodIn_r _ [38, 39, 40, 41, 42, 43, 44, 45, 46, 47, 48, 49, 50, 51, 52, 53, 54, 55, 56, 57, 58, 119, 120, 121, 122, 123, 124, 125, 126, 127, 128, 129, 130, 131, 132, 133, 134, 135, 136] (by decide +kernel) (by decide +kernel)
set_option maxRecDepth 20000 in
theorem gX5_billet_X0_init : GoodIn wsX5_billet (wsX0_init) := ggX5_billet_X0_init
set_option maxRecDepth 20000 in
theorem ggX5_billet_Jx4a65c_add_9ea2d : GoodIn wsX5_billet wsJx4a65c_add_9ea2d := goodIn_r _ [62, 63, 64, 35, 18, 65, 66, 67, 16, 68, 69, 70, 71, 72, 73, 74, 75, 76, 77, 78, 79, 80, 81, 82, 83, 84, 85, 86, 87, 88, 89, 90, 91, 92, 93, 57, 94, 95, 96, 97, 98, 99, 100, 101, 102, 103, 104, 105, 106, 107, 108, 109, 110, 137, 138, 139] (by decide +kernel) (by decide +kernel)
set_option maxRecDepth 20000 in
theorem gX5_billet_Jx4a65c_add_9ea2d : GoodIn wsX5_billet (wsV RX5 81 RJx4a65c yJx4a65c_add_9ea2d wsJx4a65c_add_9ea2d) := goodIn_app (goodIn_of _ (by decide +kernel)) ggX5_billet_Jx4a65c_add_9ea2d
theorem dX5_billet_0 : decode cX5_billet 0 = .ok (.iload_n 1, 1) := by decide +kernel
theorem dX5_billet_1 : decode cX5_billet 1 = .ok (.ifCond .lt 14, 3) := by decide +kernel
theorem dX5_billet_4 : decode cX5_billet 4 = .ok (.iload_n 1, 1) := by decide +kernel
theorem dX5_billet_5 : decode cX5_billet 5 = .ok (.aload_n 0, 1) := by decide +kernel
theorem dX5_billet_6 : decode cX5_billet 6 = .ok (.getfield 18, 3) := by decide +kernel
theorem dX5_billet_9 : decode cX5_billet 9 = .ok (.invokevirtual 72, 3) := by decide +kernel
theorem dX5_billet_12 : decode cX5_billet 12 = .ok (.if_icmp .lt 13, 3) := by decide +kernel
theorem dX5_billet_15 : decode cX5_billet 15 = .ok (.new 85, 3) := by decide +kernel
theorem dX5_billet_18 : decode cX5_billet 18 = .ok (.dup, 1) := by decide +kernel
theorem dX5_billet_19 : decode cX5_billet 19 = .ok (.ldc 87, 2) := by decide +kernel
theorem dX5_billet_21 : decode cX5_billet 21 = .ok (.invokespecial 89, 3) := by decide +kernel
theorem dX5_billet_24 : decode cX5_billet 24 = .ok (.athrow, 1) := by decide +kernel
theorem dX5_billet_25 : decode cX5_billet 25 = .ok (.iload_n 2, 1) := by decide +kernel
theorem dX5_billet_26 : decode cX5_billet 26 = .ok (.iconst 2, 1) := by decide +kernel
theorem dX5_billet_27 : decode cX5_billet 27 = .ok (.if_icmp .lt 10, 3) := by decide +kernel
theorem dX5_billet_30 : decode cX5_billet 30 = .ok (.iload_n 2, 1) := by decide +kernel
theorem dX5_billet_31 : decode cX5_billet 31 = .ok (.sipush 200, 3) := by decide +kernel
theorem dX5_billet_34 : decode cX5_billet 34 = .ok (.if_icmp .le 13, 3) := by decide +kernel
theorem dX5_billet_37 : decode cX5_billet 37 = .ok (.new 51, 3) := by decide +kernel
theorem dX5_billet_40 : decode cX5_billet 40 = .ok (.dup, 1) := by decide +kernel
theorem dX5_billet_41 : decode cX5_billet 41 = .ok (.ldc 90, 2) := by decide +kernel
theorem dX5_billet_43 : decode cX5_billet 43 = .ok (.invokespecial 55, 3) := by decide +kernel
theorem dX5_billet_46 : decode cX5_billet 46 = .ok (.athrow, 1) := by decide +kernel
theorem dX5_billet_47 : decode cX5_billet 47 = .ok (.aload_n 0, 1) := by decide +kernel
theorem dX5_billet_48 : decode cX5_billet 48 = .ok (.getfield 22, 3) := by decide +kernel
theorem dX5_billet_51 : decode cX5_billet 51 = .ok (.invokevirtual 72, 3) := by decide +kernel
theorem dX5_billet_54 : decode cX5_billet 54 = .ok (.istore_n 3, 1) := by decide +kernel
theorem dX5_billet_55 : decode cX5_billet 55 = .ok (.iload_n 3, 1) := by decide +kernel
theorem dX5_billet_56 : decode cX5_billet 56 = .ok (.bipush 12, 2) := by decide +kernel
theorem dX5_billet_58 : decode cX5_billet 58 = .ok (.if_icmp .lt 13, 3) := by decide +kernel
theorem dX5_billet_61 : decode cX5_billet 61 = .ok (.new 76, 3) := by decide +kernel
theorem dX5_billet_64 : decode cX5_billet 64 = .ok (.dup, 1) := by decide +kernel
theorem dX5_billet_65 : decode cX5_billet 65 = .ok (.ldc 92, 2) := by decide +kernel
theorem dX5_billet_67 : decode cX5_billet 67 = .ok (.invokespecial 80, 3) := by decide +kernel
theorem dX5_billet_70 : decode cX5_billet 70 = .ok (.athrow, 1) := by decide +kernel
theorem dX5_billet_71 : decode cX5_billet 71 = .ok (.aload_n 0, 1) := by decide +kernel
theorem dX5_billet_72 : decode cX5_billet 72 = .ok (.getfield 22, 3) := by decide +kernel
theorem dX5_billet_75 : decode cX5_billet 75 = .ok (.new 94, 3) := by decide +kernel
theorem dX5_billet_78 : decode cX5_billet 78 = .ok (.dup, 1) := by decide +kernel
theorem dX5_billet_79 : decode cX5_billet 79 = .ok (.iload_n 1, 1) := by decide +kernel
theorem dX5_billet_80 : decode cX5_billet 80 = .ok (.aload_n 0, 1) := by decide +kernel
theorem dX5_billet_81 : decode cX5_billet 81 = .ok (.getfield 18, 3) := by decide +kernel
theorem dX5_billet_84 : decode cX5_billet 84 = .ok (.iload_n 1, 1) := by decide +kernel
theorem dX5_billet_85 : decode cX5_billet 85 = .ok (.invokevirtual 96, 3) := by decide +kernel
theorem dX5_billet_88 : decode cX5_billet 88 = .ok (.checkcast 9, 3) := by decide +kernel
theorem dX5_billet_91 : decode cX5_billet 91 = .ok (.iload_n 2, 1) := by decide +kernel
theorem dX5_billet_92 : decode cX5_billet 92 = .ok (.invokespecial 100, 3) := by decide +kernel
theorem dX5_billet_95 : decode cX5_billet 95 = .ok (.invokevirtual 81, 3) := by decide +kernel
theorem dX5_billet_98 : decode cX5_billet 98 = .ok (.pop, 1) := by decide +kernel
theorem dX5_billet_99 : decode cX5_billet 99 = .ok (.iload_n 3, 1) := by decide +kernel
theorem dX5_billet_100 : decode cX5_billet 100 = .ok (.ireturn, 1) := by decide +kernel
set_option maxRecDepth 20000 in
theorem ggX5_billetIs_X5_billetAt : GoodIn wsX5_billetIs wsX5_billetAt := goodIn_ca (goodIn_r _ [15, 16, 17, 18, 19, 20, 21, 22, 23, 24, 25, 26, 27, 28, 29, 30, 31, 32, 33, 34, 35, 36, 37, 38, 39, 40, 41, 42, 67, 68, 69, 70, 71, 72, 73, 74, 75, 76, 77] (by decide +kernel) (by decide +kernel)) (goodIn_sub (fun _ h => List.mem_cons_of_mem _ (List.mem_append_right _ h)) (by decide +kernel))
set_option maxRecDepth 20000 in
theorem gX5_billetIs_X5_billetAt : GoodIn wsX5_billetIs (wsV RX5 103 RX5 yX5_billetAt wsX5_billetAt) := goodIn_app (goodIn_of _ (by decide +kernel)) ggX5_billetIs_X5_billetAt
set_option maxRecDepth 20000 in
theorem ggX5_billetIs_X0_volume : GoodIn wsX5_billetIs wsX0_volume := goodIn_r _ [47, 48, 49, 50, 51, 52, 53, 54, 55, 56, 57, 58, 59, 60, 61, 62, 63, 64, 65, 66] (by decide +kernel) (by decide +kernel)
set_option maxRecDepth 20000 in
theorem gX5_billetIs_X0_volume : GoodIn wsX5_billetIs (wsV RX5 113 RX0 yX0_volume wsX0_volume) := goodIn_app (goodIn_of _ (by decide +kernel)) ggX5_billetIs_X0_volume
theorem dX5_billetIs_0 : decode cX5_billetIs 0 = .ok (.aload_n 0, 1) := by decide +kernel
theorem dX5_billetIs_1 : decode cX5_billetIs 1 = .ok (.iload_n 1, 1) := by decide +kernel
theorem dX5_billetIs_2 : decode cX5_billetIs 2 = .ok (.invokevirtual 103, 3) := by decide +kernel
theorem dX5_billetIs_5 : decode cX5_billetIs 5 = .ok (.astore_n 3, 1) := by decide +kernel
theorem dX5_billetIs_6 : decode cX5_billetIs 6 = .ok (.iload_n 2, 1) := by decide +kernel
theorem dX5_billetIs_7 : decode cX5_billetIs 7 = .ok (.tableswitch 102 0 8 #[49, 54, 59, 64, 69, 74, 79, 92, 97], 49) := by decide +kernel
theorem dX5_billetIs_56 : decode cX5_billetIs 56 = .ok (.aload_n 3, 1) := by decide +kernel
theorem dX5_billetIs_57 : decode cX5_billetIs 57 = .ok (.getfield 107, 3) := by decide +kernel
theorem dX5_billetIs_60 : decode cX5_billetIs 60 = .ok (.ireturn, 1) := by decide +kernel
theorem dX5_billetIs_61 : decode cX5_billetIs 61 = .ok (.aload_n 3, 1) := by decide +kernel
theorem dX5_billetIs_62 : decode cX5_billetIs 62 = .ok (.getfield 110, 3) := by decide +kernel
theorem dX5_billetIs_65 : decode cX5_billetIs 65 = .ok (.ireturn, 1) := by decide +kernel
theorem dX5_billetIs_66 : decode cX5_billetIs 66 = .ok (.aload_n 3, 1) := by decide +kernel
theorem dX5_billetIs_67 : decode cX5_billetIs 67 = .ok (.invokevirtual 113, 3) := by decide +kernel
theorem dX5_billetIs_70 : decode cX5_billetIs 70 = .ok (.ireturn, 1) := by decide +kernel
theorem dX5_billetIs_71 : decode cX5_billetIs 71 = .ok (.aload_n 3, 1) := by decide +kernel
theorem dX5_billetIs_72 : decode cX5_billetIs 72 = .ok (.getfield 116, 3) := by decide +kernel
theorem dX5_billetIs_75 : decode cX5_billetIs 75 = .ok (.ireturn, 1) := by decide +kernel
theorem dX5_billetIs_76 : decode cX5_billetIs 76 = .ok (.aload_n 3, 1) := by decide +kernel
theorem dX5_billetIs_77 : decode cX5_billetIs 77 = .ok (.getfield 119, 3) := by decide +kernel
theorem dX5_billetIs_80 : decode cX5_billetIs 80 = .ok (.ireturn, 1) := by decide +kernel
theorem dX5_billetIs_81 : decode cX5_billetIs 81 = .ok (.aload_n 3, 1) := by decide +kernel
theorem dX5_billetIs_82 : decode cX5_billetIs 82 = .ok (.getfield 122, 3) := by decide +kernel
theorem dX5_billetIs_85 : decode cX5_billetIs 85 = .ok (.ireturn, 1) := by decide +kernel
theorem dX5_billetIs_86 : decode cX5_billetIs 86 = .ok (.aload_n 3, 1) := by decide +kernel
theorem dX5_billetIs_87 : decode cX5_billetIs 87 = .ok (.getfield 125, 3) := by decide +kernel
theorem dX5_billetIs_90 : decode cX5_billetIs 90 = .ok (.ifCond .eq 7, 3) := by decide +kernel
theorem dX5_billetIs_93 : decode cX5_billetIs 93 = .ok (.iconst 1, 1) := by decide +kernel
theorem dX5_billetIs_94 : decode cX5_billetIs 94 = .ok (.goto 4, 3) := by decide +kernel
theorem dX5_billetIs_97 : decode cX5_billetIs 97 = .ok (.iconst 0, 1) := by decide +kernel
theorem dX5_billetIs_98 : decode cX5_billetIs 98 = .ok (.ireturn, 1) := by decide +kernel
theorem dX5_billetIs_99 : decode cX5_billetIs 99 = .ok (.aload_n 3, 1) := by decide +kernel
theorem dX5_billetIs_100 : decode cX5_billetIs 100 = .ok (.getfield 129, 3) := by decide +kernel
theorem dX5_billetIs_103 : decode cX5_billetIs 103 = .ok (.ireturn, 1) := by decide +kernel
theorem dX5_billetIs_104 : decode cX5_billetIs 104 = .ok (.aload_n 3, 1) := by decide +kernel
theorem dX5_billetIs_105 : decode cX5_billetIs 105 = .ok (.getfield 132, 3) := by decide +kernel
theorem dX5_billetIs_108 : decode cX5_billetIs 108 = .ok (.ireturn, 1) := by decide +kernel
theorem dX5_billetIs_109 : decode cX5_billetIs 109 = .ok (.new 51, 3) := by decide +kernel
theorem dX5_billetIs_112 : decode cX5_billetIs 112 = .ok (.dup, 1) := by decide +kernel
theorem dX5_billetIs_113 : decode cX5_billetIs 113 = .ok (.ldc 135, 2) := by decide +kernel
theorem dX5_billetIs_115 : decode cX5_billetIs 115 = .ok (.invokespecial 55, 3) := by decide +kernel
theorem dX5_billetIs_118 : decode cX5_billetIs 118 = .ok (.athrow, 1) := by decide +kernel
set_option maxRecDepth 20000 in
theorem ggX5_area_X5_billetAt : GoodIn wsX5_area wsX5_billetAt := goodIn_ca (goodIn_r _ [6, 7, 8, 9, 10, 11, 12, 13, 14, 15, 16, 17, 18, 19, 20, 21, 22, 23, 24, 25, 26, 27, 28, 29, 30, 31, 32, 33, 55, 56, 57, 58, 59, 60, 61, 62, 63, 64, 65] (by decide +kernel) (by decide +kernel)) (goodIn_sub (fun _ h => List.mem_cons_of_mem _ (List.mem_append_right _ h)) (by decide +kernel))
set_option maxRecDepth 20000 in
theorem gX5_area_X5_billetAt : GoodIn wsX5_area (wsV RX5 103 RX5 yX5_billetAt wsX5_billetAt) := goodIn_app (goodIn_of _ (by decide +kernel)) ggX5_area_X5_billetAt
set_option maxRecDepth 20000 in
theorem ggX5_area_X5_refuseNoSection : GoodIn wsX5_area wsX5_refuseNoSection := goodIn_ca (goodIn_r _ [36, 7, 8] (by decide +kernel) (by decide +kernel)) (goodIn_sub (fun _ h => List.mem_cons_of_mem _ (List.mem_append_right _ h)) (by decide +kernel))
set_option maxRecDepth 20000 in
theorem gX5_area_X5_refuseNoSection : GoodIn wsX5_area (va_wsS RX5 137 yX5_refuseNoSection wsX5_refuseNoSection) := goodIn_app (goodIn_of _ (by decide +kernel)) ggX5_area_X5_refuseNoSection
theorem dX5_area_0 : decode cX5_area 0 = .ok (.aload_n 0, 1) := by decide +kernel
theorem dX5_area_1 : decode cX5_area 1 = .ok (.iload_n 1, 1) := by decide +kernel
theorem dX5_area_2 : decode cX5_area 2 = .ok (.invokevirtual 103, 3) := by decide +kernel
theorem dX5_area_5 : decode cX5_area 5 = .ok (.astore_n 3, 1) := by decide +kernel
theorem dX5_area_6 : decode cX5_area 6 = .ok (.iload_n 2, 1) := by decide +kernel
theorem dX5_area_7 : decode cX5_area 7 = .ok (.invokestatic 137, 3) := by decide +kernel
theorem dX5_area_10 : decode cX5_area 10 = .ok (.aload_n 3, 1) := by decide +kernel
theorem dX5_area_11 : decode cX5_area 11 = .ok (.getfield 141, 3) := by decide +kernel
theorem dX5_area_14 : decode cX5_area 14 = .ok (.iload_n 2, 1) := by decide +kernel
theorem dX5_area_15 : decode cX5_area 15 = .ok (.iaload, 1) := by decide +kernel
theorem dX5_area_16 : decode cX5_area 16 = .ok (.ireturn, 1) := by decide +kernel
set_option maxRecDepth 20000 in
theorem ggX5_balances_X5_billetAt : GoodIn wsX5_balances wsX5_billetAt := goodIn_ca (goodIn_r _ [9, 10, 11, 12, 13, 14, 15, 16, 17, 18, 19, 20, 21, 22, 23, 24, 25, 26, 27, 28, 29, 30, 31, 32, 33, 34, 35, 36, 61, 62, 63, 64, 65, 66, 67, 68, 69, 70, 71] (by decide +kernel) (by decide +kernel)) (goodIn_sub (fun _ h => List.mem_cons_of_mem _ (List.mem_append_right _ h)) (by decide +kernel))
set_option maxRecDepth 20000 in
theorem gX5_balances_X5_billetAt : GoodIn wsX5_balances (wsV RX5 103 RX5 yX5_billetAt wsX5_billetAt) := goodIn_app (goodIn_of _ (by decide +kernel)) ggX5_balances_X5_billetAt
set_option maxRecDepth 20000 in
theorem ggX5_balances_X0_volume : GoodIn wsX5_balances wsX0_volume := goodIn_r _ [41, 42, 43, 44, 45, 46, 47, 48, 49, 50, 51, 52, 53, 54, 55, 56, 57, 58, 59, 60] (by decide +kernel) (by decide +kernel)
set_option maxRecDepth 20000 in
theorem gX5_balances_X0_volume : GoodIn wsX5_balances (wsV RX5 113 RX0 yX0_volume wsX0_volume) := goodIn_app (goodIn_of _ (by decide +kernel)) ggX5_balances_X0_volume
theorem dX5_balances_0 : decode cX5_balances 0 = .ok (.aload_n 0, 1) := by decide +kernel
theorem dX5_balances_1 : decode cX5_balances 1 = .ok (.iload_n 1, 1) := by decide +kernel
theorem dX5_balances_2 : decode cX5_balances 2 = .ok (.invokevirtual 103, 3) := by decide +kernel
theorem dX5_balances_5 : decode cX5_balances 5 = .ok (.astore_n 2, 1) := by decide +kernel
theorem dX5_balances_6 : decode cX5_balances 6 = .ok (.aload_n 2, 1) := by decide +kernel
theorem dX5_balances_7 : decode cX5_balances 7 = .ok (.invokevirtual 113, 3) := by decide +kernel
theorem dX5_balances_10 : decode cX5_balances 10 = .ok (.aload_n 2, 1) := by decide +kernel
theorem dX5_balances_11 : decode cX5_balances 11 = .ok (.getfield 144, 3) := by decide +kernel
theorem dX5_balances_14 : decode cX5_balances 14 = .ok (.aload_n 2, 1) := by decide +kernel
theorem dX5_balances_15 : decode cX5_balances 15 = .ok (.getfield 147, 3) := by decide +kernel
theorem dX5_balances_18 : decode cX5_balances 18 = .ok (.isub, 1) := by decide +kernel
theorem dX5_balances_19 : decode cX5_balances 19 = .ok (.aload_n 2, 1) := by decide +kernel
theorem dX5_balances_20 : decode cX5_balances 20 = .ok (.getfield 150, 3) := by decide +kernel
theorem dX5_balances_23 : decode cX5_balances 23 = .ok (.isub, 1) := by decide +kernel
theorem dX5_balances_24 : decode cX5_balances 24 = .ok (.aload_n 2, 1) := by decide +kernel
theorem dX5_balances_25 : decode cX5_balances 25 = .ok (.getfield 153, 3) := by decide +kernel
theorem dX5_balances_28 : decode cX5_balances 28 = .ok (.isub, 1) := by decide +kernel
theorem dX5_balances_29 : decode cX5_balances 29 = .ok (.if_icmp .ne 7, 3) := by decide +kernel
theorem dX5_balances_32 : decode cX5_balances 32 = .ok (.iconst 1, 1) := by decide +kernel
theorem dX5_balances_33 : decode cX5_balances 33 = .ok (.goto 4, 3) := by decide +kernel
theorem dX5_balances_36 : decode cX5_balances 36 = .ok (.iconst 0, 1) := by decide +kernel
theorem dX5_balances_37 : decode cX5_balances 37 = .ok (.ireturn, 1) := by decide +kernel
set_option maxRecDepth 20000 in
theorem ggX5_heat_X5_billetAt : GoodIn wsX5_heat wsX5_billetAt := goodIn_ca (goodIn_r _ [13, 14, 15, 16, 17, 18, 19, 20, 21, 22, 23, 24, 25, 26, 27, 28, 29, 30, 31, 32, 33, 34, 35, 36, 37, 38, 39, 40, 89, 90, 91, 92, 93, 94, 95, 96, 97, 98, 99] (by decide +kernel) (by decide +kernel)) (goodIn_sub (fun _ h => List.mem_cons_of_mem _ (List.mem_append_right _ h)) (by decide +kernel))
set_option maxRecDepth 20000 in
theorem gX5_heat_X5_billetAt : GoodIn wsX5_heat (wsV RX5 103 RX5 yX5_billetAt wsX5_billetAt) := goodIn_app (goodIn_of _ (by decide +kernel)) ggX5_heat_X5_billetAt
set_option maxRecDepth 20000 in
theorem ggX5_heat_X5_refuseMinutes : GoodIn wsX5_heat wsX5_refuseMinutes := goodIn_ca (goodIn_r _ [43, 1, 2] (by decide +kernel) (by decide +kernel)) (goodIn_sub (fun _ h => List.mem_cons_of_mem _ (List.mem_append_left _ (List.mem_append_left _ (List.mem_append_right _ h)))) (by decide +kernel))
set_option maxRecDepth 20000 in
theorem gX5_heat_X5_refuseMinutes : GoodIn wsX5_heat (va_wsS RX5 158 yX5_refuseMinutes wsX5_refuseMinutes) := goodIn_app (goodIn_of _ (by decide +kernel)) ggX5_heat_X5_refuseMinutes
set_option maxRecDepth 20000 in
theorem ggX5_heat_X0_standInFurnace : GoodIn wsX5_heat wsX0_standInFurnace := goodIn_r _ [48, 49, 50, 51, 52, 53, 54, 55, 56, 57, 58, 59, 60, 47, 61, 62, 63, 64, 65, 66, 67, 68, 69, 70, 71, 72, 73, 74, 75, 76, 77, 78, 79, 80, 81, 82, 83, 84, 85] (by decide +kernel) (by decide +kernel)
set_option maxRecDepth 20000 in
theorem gX5_heat_X0_standInFurnace : GoodIn wsX5_heat (wsV RX5 167 RX0 yX0_standInFurnace wsX0_standInFurnace) := goodIn_app (goodIn_of _ (by decide +kernel)) ggX5_heat_X0_standInFurnace
theorem dX5_heat_0 : decode cX5_heat 0 = .ok (.aload_n 0, 1) := by decide +kernel
theorem dX5_heat_1 : decode cX5_heat 1 = .ok (.iload_n 1, 1) := by decide +kernel
theorem dX5_heat_2 : decode cX5_heat 2 = .ok (.invokevirtual 103, 3) := by decide +kernel
theorem dX5_heat_5 : decode cX5_heat 5 = .ok (.astore 4, 2) := by decide +kernel
theorem dX5_heat_7 : decode cX5_heat 7 = .ok (.iload_n 2, 1) := by decide +kernel
theorem dX5_heat_8 : decode cX5_heat 8 = .ok (.sipush 200, 3) := by decide +kernel
theorem dX5_heat_11 : decode cX5_heat 11 = .ok (.if_icmp .lt 10, 3) := by decide +kernel
theorem dX5_heat_14 : decode cX5_heat 14 = .ok (.iload_n 2, 1) := by decide +kernel
theorem dX5_heat_15 : decode cX5_heat 15 = .ok (.sipush 1300, 3) := by decide +kernel
theorem dX5_heat_18 : decode cX5_heat 18 = .ok (.if_icmp .le 13, 3) := by decide +kernel
theorem dX5_heat_21 : decode cX5_heat 21 = .ok (.new 51, 3) := by decide +kernel
theorem dX5_heat_24 : decode cX5_heat 24 = .ok (.dup, 1) := by decide +kernel
theorem dX5_heat_25 : decode cX5_heat 25 = .ok (.ldc 156, 2) := by decide +kernel
theorem dX5_heat_27 : decode cX5_heat 27 = .ok (.invokespecial 55, 3) := by decide +kernel
theorem dX5_heat_30 : decode cX5_heat 30 = .ok (.athrow, 1) := by decide +kernel
theorem dX5_heat_31 : decode cX5_heat 31 = .ok (.iload_n 3, 1) := by decide +kernel
theorem dX5_heat_32 : decode cX5_heat 32 = .ok (.invokestatic 158, 3) := by decide +kernel
theorem dX5_heat_35 : decode cX5_heat 35 = .ok (.aload 4, 2) := by decide +kernel
theorem dX5_heat_37 : decode cX5_heat 37 = .ok (.getfield 116, 3) := by decide +kernel
theorem dX5_heat_40 : decode cX5_heat 40 = .ok (.aload 4, 2) := by decide +kernel
theorem dX5_heat_42 : decode cX5_heat 42 = .ok (.getfield 161, 3) := by decide +kernel
theorem dX5_heat_45 : decode cX5_heat 45 = .ok (.getfield 62, 3) := by decide +kernel
theorem dX5_heat_48 : decode cX5_heat 48 = .ok (.if_icmp .lt 13, 3) := by decide +kernel
theorem dX5_heat_51 : decode cX5_heat 51 = .ok (.new 76, 3) := by decide +kernel
theorem dX5_heat_54 : decode cX5_heat 54 = .ok (.dup, 1) := by decide +kernel
theorem dX5_heat_55 : decode cX5_heat 55 = .ok (.ldc 165, 2) := by decide +kernel
theorem dX5_heat_57 : decode cX5_heat 57 = .ok (.invokespecial 80, 3) := by decide +kernel
theorem dX5_heat_60 : decode cX5_heat 60 = .ok (.athrow, 1) := by decide +kernel
theorem dX5_heat_61 : decode cX5_heat 61 = .ok (.aload 4, 2) := by decide +kernel
theorem dX5_heat_63 : decode cX5_heat 63 = .ok (.iload_n 2, 1) := by decide +kernel
theorem dX5_heat_64 : decode cX5_heat 64 = .ok (.iload_n 3, 1) := by decide +kernel
theorem dX5_heat_65 : decode cX5_heat 65 = .ok (.invokevirtual 167, 3) := by decide +kernel
theorem dX5_heat_68 : decode cX5_heat 68 = .ok (.aload 4, 2) := by decide +kernel
theorem dX5_heat_70 : decode cX5_heat 70 = .ok (.getfield 110, 3) := by decide +kernel
theorem dX5_heat_73 : decode cX5_heat 73 = .ok (.ireturn, 1) := by decide +kernel
set_option maxRecDepth 20000 in
theorem ggX5_cool_X5_billetAt : GoodIn wsX5_cool wsX5_billetAt := goodIn_ca (goodIn_r _ [6, 7, 8, 9, 10, 11, 12, 13, 14, 15, 16, 17, 18, 19, 20, 21, 22, 23, 24, 25, 26, 27, 28, 29, 30, 31, 32, 33, 68, 69, 70, 71, 72, 73, 74, 75, 76, 77, 78] (by decide +kernel) (by decide +kernel)) (goodIn_sub (fun _ h => List.mem_cons_of_mem _ (List.mem_append_left _ (List.mem_append_right _ h))) (by decide +kernel))
set_option maxRecDepth 20000 in
theorem gX5_cool_X5_billetAt : GoodIn wsX5_cool (wsV RX5 103 RX5 yX5_billetAt wsX5_billetAt) := goodIn_app (goodIn_of _ (by decide +kernel)) ggX5_cool_X5_billetAt
set_option maxRecDepth 20000 in
theorem ggX5_cool_X5_refuseMinutes : GoodIn wsX5_cool wsX5_refuseMinutes := goodIn_ca (goodIn_r _ [36, 37, 38] (by decide +kernel) (by decide +kernel)) (goodIn_sub (fun _ h => List.mem_cons_of_mem _ (List.mem_append_right _ h)) (by decide +kernel))
set_option maxRecDepth 20000 in
theorem gX5_cool_X5_refuseMinutes : GoodIn wsX5_cool (va_wsS RX5 158 yX5_refuseMinutes wsX5_refuseMinutes) := goodIn_app (goodIn_of _ (by decide +kernel)) ggX5_cool_X5_refuseMinutes
set_option maxRecDepth 20000 in
theorem ggX5_cool_X0_standOutside : GoodIn wsX5_cool wsX0_standOutside := goodIn_r _ [43, 44, 45, 46, 47, 42, 48, 49, 50, 51, 52, 53, 54, 55, 56, 57, 58, 59, 60, 61, 62, 63, 64, 65, 66, 67] (by decide +kernel) (by decide +kernel)
set_option maxRecDepth 20000 in
theorem gX5_cool_X0_standOutside : GoodIn wsX5_cool (wsV RX5 171 RX0 yX0_standOutside wsX0_standOutside) := goodIn_app (goodIn_of _ (by decide +kernel)) ggX5_cool_X0_standOutside
theorem dX5_cool_0 : decode cX5_cool 0 = .ok (.aload_n 0, 1) := by decide +kernel
theorem dX5_cool_1 : decode cX5_cool 1 = .ok (.iload_n 1, 1) := by decide +kernel
theorem dX5_cool_2 : decode cX5_cool 2 = .ok (.invokevirtual 103, 3) := by decide +kernel
theorem dX5_cool_5 : decode cX5_cool 5 = .ok (.astore_n 3, 1) := by decide +kernel
theorem dX5_cool_6 : decode cX5_cool 6 = .ok (.iload_n 2, 1) := by decide +kernel
theorem dX5_cool_7 : decode cX5_cool 7 = .ok (.invokestatic 158, 3) := by decide +kernel
theorem dX5_cool_10 : decode cX5_cool 10 = .ok (.iconst 1, 1) := by decide +kernel
theorem dX5_cool_11 : decode cX5_cool 11 = .ok (.istore 4, 2) := by decide +kernel
theorem dX5_cool_13 : decode cX5_cool 13 = .ok (.iload 4, 2) := by decide +kernel
theorem dX5_cool_15 : decode cX5_cool 15 = .ok (.iload_n 2, 1) := by decide +kernel
theorem dX5_cool_16 : decode cX5_cool 16 = .ok (.if_icmp .gt 13, 3) := by decide +kernel
theorem dX5_cool_19 : decode cX5_cool 19 = .ok (.aload_n 3, 1) := by decide +kernel
theorem dX5_cool_20 : decode cX5_cool 20 = .ok (.invokevirtual 171, 3) := by decide +kernel
theorem dX5_cool_23 : decode cX5_cool 23 = .ok (.iinc 4 1, 3) := by decide +kernel
theorem dX5_cool_26 : decode cX5_cool 26 = .ok (.goto (-13), 3) := by decide +kernel
theorem dX5_cool_29 : decode cX5_cool 29 = .ok (.aload_n 3, 1) := by decide +kernel
theorem dX5_cool_30 : decode cX5_cool 30 = .ok (.getfield 110, 3) := by decide +kernel
theorem dX5_cool_33 : decode cX5_cool 33 = .ok (.ireturn, 1) := by decide +kernel
set_option maxRecDepth 20000 in
theorem ggX5_blow_X5_billetAt : GoodIn wsX5_blow wsX5_billetAt := goodIn_ca (goodIn_r _ [10, 11, 12, 13, 14, 15, 16, 17, 18, 19, 20, 21, 22, 23, 24, 25, 26, 27, 28, 29, 30, 31, 32, 33, 34, 35, 36, 37, 90, 91, 92, 93, 94, 95, 96, 97, 98, 99, 100] (by decide +kernel) (by decide +kernel)) (goodIn_sub (fun _ h => List.mem_cons_of_mem _ (List.mem_append_right _ h)) (by decide +kernel))
set_option maxRecDepth 20000 in
theorem gX5_blow_X5_billetAt : GoodIn wsX5_blow (wsV RX5 103 RX5 yX5_billetAt wsX5_billetAt) := goodIn_app (goodIn_of _ (by decide +kernel)) ggX5_blow_X5_billetAt
set_option maxRecDepth 20000 in
theorem ggX5_blow_X5_refuseNoSection : GoodIn wsX5_blow wsX5_refuseNoSection := goodIn_ca (goodIn_r _ [40, 11, 12] (by decide +kernel) (by decide +kernel)) (goodIn_sub (fun _ h => List.mem_cons_of_mem _ (List.mem_append_right _ h)) (by decide +kernel))
set_option maxRecDepth 20000 in
theorem gX5_blow_X5_refuseNoSection : GoodIn wsX5_blow (va_wsS RX5 137 yX5_refuseNoSection wsX5_refuseNoSection) := goodIn_app (goodIn_of _ (by decide +kernel)) ggX5_blow_X5_refuseNoSection
set_option maxRecDepth 20000 in
theorem ggX5_blow_X5_neighbourOf : GoodIn wsX5_blow wsX5_neighbourOf := goodIn_r _ [43] (by decide +kernel) (by decide +kernel)
set_option maxRecDepth 20000 in
theorem gX5_blow_X5_neighbourOf : GoodIn wsX5_blow (va_wsS RX5 180 yX5_neighbourOf wsX5_neighbourOf) := goodIn_app (goodIn_of _ (by decide +kernel)) ggX5_blow_X5_neighbourOf
set_option maxRecDepth 20000 in
theorem ggX5_blow_X0_strike : GoodIn wsX5_blow wsX0_strike := goodIn_r _ [48, 49, 50, 51, 52, 53, 54, 55, 56, 57, 58, 59, 60, 61, 9, 62, 63, 64, 65, 47, 66, 67, 68, 69, 70, 71, 72, 73, 74, 75, 76, 77, 78, 79, 80, 81, 82, 83, 84, 85, 86, 87, 88, 89] (by decide +kernel) (by decide +kernel)
set_option maxRecDepth 20000 in
theorem gX5_blow_X0_strike : GoodIn wsX5_blow (wsV RX5 184 RX0 yX0_strike wsX0_strike) := goodIn_app (goodIn_of _ (by decide +kernel)) ggX5_blow_X0_strike
theorem dX5_blow_0 : decode cX5_blow 0 = .ok (.aload_n 0, 1) := by decide +kernel
theorem dX5_blow_1 : decode cX5_blow 1 = .ok (.iload_n 1, 1) := by decide +kernel
theorem dX5_blow_2 : decode cX5_blow 2 = .ok (.invokevirtual 103, 3) := by decide +kernel
theorem dX5_blow_5 : decode cX5_blow 5 = .ok (.astore 5, 2) := by decide +kernel
theorem dX5_blow_7 : decode cX5_blow 7 = .ok (.iload_n 2, 1) := by decide +kernel
theorem dX5_blow_8 : decode cX5_blow 8 = .ok (.invokestatic 137, 3) := by decide +kernel
theorem dX5_blow_11 : decode cX5_blow 11 = .ok (.iload_n 3, 1) := by decide +kernel
theorem dX5_blow_12 : decode cX5_blow 12 = .ok (.ifCond .eq 18, 3) := by decide +kernel
theorem dX5_blow_15 : decode cX5_blow 15 = .ok (.iload_n 3, 1) := by decide +kernel
theorem dX5_blow_16 : decode cX5_blow 16 = .ok (.iconst 1, 1) := by decide +kernel
theorem dX5_blow_17 : decode cX5_blow 17 = .ok (.if_icmp .eq 13, 3) := by decide +kernel
theorem dX5_blow_20 : decode cX5_blow 20 = .ok (.new 51, 3) := by decide +kernel
theorem dX5_blow_23 : decode cX5_blow 23 = .ok (.dup, 1) := by decide +kernel
theorem dX5_blow_24 : decode cX5_blow 24 = .ok (.ldc 174, 2) := by decide +kernel
theorem dX5_blow_26 : decode cX5_blow 26 = .ok (.invokespecial 55, 3) := by decide +kernel
theorem dX5_blow_29 : decode cX5_blow 29 = .ok (.athrow, 1) := by decide +kernel
theorem dX5_blow_30 : decode cX5_blow 30 = .ok (.iload 4, 2) := by decide +kernel
theorem dX5_blow_32 : decode cX5_blow 32 = .ok (.iconst 1, 1) := by decide +kernel
theorem dX5_blow_33 : decode cX5_blow 33 = .ok (.if_icmp .lt 10, 3) := by decide +kernel
theorem dX5_blow_36 : decode cX5_blow 36 = .ok (.iload 4, 2) := by decide +kernel
theorem dX5_blow_38 : decode cX5_blow 38 = .ok (.bipush 20, 2) := by decide +kernel
theorem dX5_blow_40 : decode cX5_blow 40 = .ok (.if_icmp .le 13, 3) := by decide +kernel
theorem dX5_blow_43 : decode cX5_blow 43 = .ok (.new 51, 3) := by decide +kernel
theorem dX5_blow_46 : decode cX5_blow 46 = .ok (.dup, 1) := by decide +kernel
theorem dX5_blow_47 : decode cX5_blow 47 = .ok (.ldc 176, 2) := by decide +kernel
theorem dX5_blow_49 : decode cX5_blow 49 = .ok (.invokespecial 55, 3) := by decide +kernel
theorem dX5_blow_52 : decode cX5_blow 52 = .ok (.athrow, 1) := by decide +kernel
theorem dX5_blow_53 : decode cX5_blow 53 = .ok (.aload 5, 2) := by decide +kernel
theorem dX5_blow_55 : decode cX5_blow 55 = .ok (.getfield 125, 3) := by decide +kernel
theorem dX5_blow_58 : decode cX5_blow 58 = .ok (.ifCond .eq 13, 3) := by decide +kernel
theorem dX5_blow_61 : decode cX5_blow 61 = .ok (.new 76, 3) := by decide +kernel
theorem dX5_blow_64 : decode cX5_blow 64 = .ok (.dup, 1) := by decide +kernel
theorem dX5_blow_65 : decode cX5_blow 65 = .ok (.ldc 178, 2) := by decide +kernel
theorem dX5_blow_67 : decode cX5_blow 67 = .ok (.invokespecial 80, 3) := by decide +kernel
theorem dX5_blow_70 : decode cX5_blow 70 = .ok (.athrow, 1) := by decide +kernel
theorem dX5_blow_71 : decode cX5_blow 71 = .ok (.iload_n 2, 1) := by decide +kernel
theorem dX5_blow_72 : decode cX5_blow 72 = .ok (.invokestatic 180, 3) := by decide +kernel
theorem dX5_blow_75 : decode cX5_blow 75 = .ok (.istore 6, 2) := by decide +kernel
theorem dX5_blow_77 : decode cX5_blow 77 = .ok (.iload_n 3, 1) := by decide +kernel
theorem dX5_blow_78 : decode cX5_blow 78 = .ok (.ifCond .ne 14, 3) := by decide +kernel
theorem dX5_blow_81 : decode cX5_blow 81 = .ok (.aload 5, 2) := by decide +kernel
theorem dX5_blow_83 : decode cX5_blow 83 = .ok (.iload_n 2, 1) := by decide +kernel
theorem dX5_blow_84 : decode cX5_blow 84 = .ok (.iload 6, 2) := by decide +kernel
theorem dX5_blow_86 : decode cX5_blow 86 = .ok (.iload 4, 2) := by decide +kernel
theorem dX5_blow_88 : decode cX5_blow 88 = .ok (.invokevirtual 184, 3) := by decide +kernel
theorem dX5_blow_91 : decode cX5_blow 91 = .ok (.ireturn, 1) := by decide +kernel
theorem dX5_blow_92 : decode cX5_blow 92 = .ok (.aload 5, 2) := by decide +kernel
theorem dX5_blow_94 : decode cX5_blow 94 = .ok (.iload 6, 2) := by decide +kernel
theorem dX5_blow_96 : decode cX5_blow 96 = .ok (.iload_n 2, 1) := by decide +kernel
theorem dX5_blow_97 : decode cX5_blow 97 = .ok (.iload 4, 2) := by decide +kernel
theorem dX5_blow_99 : decode cX5_blow 99 = .ok (.invokevirtual 184, 3) := by decide +kernel
theorem dX5_blow_102 : decode cX5_blow 102 = .ok (.ireturn, 1) := by decide +kernel
set_option maxRecDepth 20000 in
theorem ggX5_cut_X5_billetAt : GoodIn wsX5_cut wsX5_billetAt := goodIn_ca (goodIn_r _ [13, 14, 15, 16, 17, 18, 19, 20, 21, 22, 23, 24, 25, 26, 27, 28, 29, 30, 31, 32, 33, 34, 35, 36, 37, 38, 39, 40, 62, 63, 64, 65, 66, 67, 68, 69, 70, 71, 72] (by decide +kernel) (by decide +kernel)) (goodIn_sub (fun _ h => List.mem_cons_of_mem _ (List.mem_append_right _ h)) (by decide +kernel))
set_option maxRecDepth 20000 in
theorem gX5_cut_X5_billetAt : GoodIn wsX5_cut (wsV RX5 103 RX5 yX5_billetAt wsX5_billetAt) := goodIn_app (goodIn_of _ (by decide +kernel)) ggX5_cut_X5_billetAt
set_option maxRecDepth 20000 in
theorem ggX5_cut_X5_refuseNoSection : GoodIn wsX5_cut wsX5_refuseNoSection := goodIn_ca (goodIn_r _ [43, 14, 15] (by decide +kernel) (by decide +kernel)) (goodIn_sub (fun _ h => List.mem_cons_of_mem _ (List.mem_append_right _ h)) (by decide +kernel))
set_option maxRecDepth 20000 in
theorem gX5_cut_X5_refuseNoSection : GoodIn wsX5_cut (va_wsS RX5 137 yX5_refuseNoSection wsX5_refuseNoSection) := goodIn_app (goodIn_of _ (by decide +kernel)) ggX5_cut_X5_refuseNoSection
theorem dX5_cut_0 : decode cX5_cut 0 = .ok (.aload_n 0, 1) := by decide +kernel
theorem dX5_cut_1 : decode cX5_cut 1 = .ok (.iload_n 1, 1) := by decide +kernel
theorem dX5_cut_2 : decode cX5_cut 2 = .ok (.invokevirtual 103, 3) := by decide +kernel
theorem dX5_cut_5 : decode cX5_cut 5 = .ok (.astore 4, 2) := by decide +kernel
theorem dX5_cut_7 : decode cX5_cut 7 = .ok (.iload_n 2, 1) := by decide +kernel
theorem dX5_cut_8 : decode cX5_cut 8 = .ok (.invokestatic 137, 3) := by decide +kernel
theorem dX5_cut_11 : decode cX5_cut 11 = .ok (.iload_n 3, 1) := by decide +kernel
theorem dX5_cut_12 : decode cX5_cut 12 = .ok (.iconst 1, 1) := by decide +kernel
theorem dX5_cut_13 : decode cX5_cut 13 = .ok (.if_icmp .lt 10, 3) := by decide +kernel
theorem dX5_cut_16 : decode cX5_cut 16 = .ok (.iload_n 3, 1) := by decide +kernel
theorem dX5_cut_17 : decode cX5_cut 17 = .ok (.sipush 200, 3) := by decide +kernel
theorem dX5_cut_20 : decode cX5_cut 20 = .ok (.if_icmp .le 13, 3) := by decide +kernel
theorem dX5_cut_23 : decode cX5_cut 23 = .ok (.new 51, 3) := by decide +kernel
theorem dX5_cut_26 : decode cX5_cut 26 = .ok (.dup, 1) := by decide +kernel
theorem dX5_cut_27 : decode cX5_cut 27 = .ok (.ldc 188, 2) := by decide +kernel
theorem dX5_cut_29 : decode cX5_cut 29 = .ok (.invokespecial 55, 3) := by decide +kernel
theorem dX5_cut_32 : decode cX5_cut 32 = .ok (.athrow, 1) := by decide +kernel
theorem dX5_cut_33 : decode cX5_cut 33 = .ok (.iload_n 3, 1) := by decide +kernel
theorem dX5_cut_34 : decode cX5_cut 34 = .ok (.aload 4, 2) := by decide +kernel
theorem dX5_cut_36 : decode cX5_cut 36 = .ok (.getfield 141, 3) := by decide +kernel
theorem dX5_cut_39 : decode cX5_cut 39 = .ok (.iload_n 2, 1) := by decide +kernel
theorem dX5_cut_40 : decode cX5_cut 40 = .ok (.iaload, 1) := by decide +kernel
theorem dX5_cut_41 : decode cX5_cut 41 = .ok (.iconst 1, 1) := by decide +kernel
theorem dX5_cut_42 : decode cX5_cut 42 = .ok (.isub, 1) := by decide +kernel
theorem dX5_cut_43 : decode cX5_cut 43 = .ok (.invokestatic 190, 3) := by decide +kernel
theorem dX5_cut_46 : decode cX5_cut 46 = .ok (.istore 5, 2) := by decide +kernel
theorem dX5_cut_48 : decode cX5_cut 48 = .ok (.aload 4, 2) := by decide +kernel
theorem dX5_cut_50 : decode cX5_cut 50 = .ok (.getfield 141, 3) := by decide +kernel
theorem dX5_cut_53 : decode cX5_cut 53 = .ok (.iload_n 2, 1) := by decide +kernel
theorem dX5_cut_54 : decode cX5_cut 54 = .ok (.dup2, 1) := by decide +kernel
theorem dX5_cut_55 : decode cX5_cut 55 = .ok (.iaload, 1) := by decide +kernel
theorem dX5_cut_56 : decode cX5_cut 56 = .ok (.iload 5, 2) := by decide +kernel
theorem dX5_cut_58 : decode cX5_cut 58 = .ok (.isub, 1) := by decide +kernel
theorem dX5_cut_59 : decode cX5_cut 59 = .ok (.iastore, 1) := by decide +kernel
theorem dX5_cut_60 : decode cX5_cut 60 = .ok (.aload 4, 2) := by decide +kernel
theorem dX5_cut_62 : decode cX5_cut 62 = .ok (.dup, 1) := by decide +kernel
theorem dX5_cut_63 : decode cX5_cut 63 = .ok (.getfield 153, 3) := by decide +kernel
theorem dX5_cut_66 : decode cX5_cut 66 = .ok (.iload 5, 2) := by decide +kernel
theorem dX5_cut_68 : decode cX5_cut 68 = .ok (.iadd, 1) := by decide +kernel
theorem dX5_cut_69 : decode cX5_cut 69 = .ok (.putfield 153, 3) := by decide +kernel
theorem dX5_cut_72 : decode cX5_cut 72 = .ok (.iload 5, 2) := by decide +kernel
theorem dX5_cut_74 : decode cX5_cut 74 = .ok (.ireturn, 1) := by decide +kernel
set_option maxRecDepth 20000 in
theorem ggX5_die_Jx4a65c_size_8abf5 : GoodIn wsX5_die wsJx4a65c_size_8abf5 := goodIn_r _ [11, 12, 89, 90, 91] (by decide +kernel) (by decide +kernel)
set_option maxRecDepth 20000 in
theorem gX5_die_Jx4a65c_size_8abf5 : GoodIn wsX5_die (wsV RX5 72 RJx4a65c yJx4a65c_size_8abf5 wsJx4a65c_size_8abf5) := goodIn_app (goodIn_of _ (by decide +kernel)) ggX5_die_Jx4a65c_size_8abf5
set_option maxRecDepth 20000 in
theorem ggX5_die_X1_init : GoodIn wsX5_die wsX1_init := goodIn_r _ [15, 16, 17, 18, 19, 20, 21, 22, 23, 24, 25, 87, 88] (by decide +kernel) (by decide +kernel)
set_option maxRecDepth 20000 in
theorem gX5_die_X1_init : GoodIn wsX5_die (wsX1_init) := ggX5_die_X1_init
set_option maxRecDepth 20000 in
theorem ggX5_die_Jx4a65c_add_9ea2d : GoodIn wsX5_die wsJx4a65c_add_9ea2d := goodIn_r _ [29, 30, 31, 32, 12, 33, 34, 35, 10, 36, 37, 38, 39, 40, 41, 42, 43, 44, 45, 46, 47, 48, 49, 50, 51, 52, 53, 54, 55, 56, 57, 58, 59, 60, 61, 24, 62, 63, 64, 65, 66, 67, 68, 69, 70, 71, 72, 73, 74, 75, 76, 77, 78, 89, 90, 91] (by decide +kernel) (by decide +kernel)
set_option maxRecDepth 20000 in
theorem gX5_die_Jx4a65c_add_9ea2d : GoodIn wsX5_die (wsV RX5 81 RJx4a65c yJx4a65c_add_9ea2d wsJx4a65c_add_9ea2d) := goodIn_app (goodIn_of _ (by decide +kernel)) ggX5_die_Jx4a65c_add_9ea2d
theorem dX5_die_0 : decode cX5_die 0 = .ok (.aload_n 0, 1) := by decide +kernel
theorem dX5_die_1 : decode cX5_die 1 = .ok (.getfield 25, 3) := by decide +kernel
theorem dX5_die_4 : decode cX5_die 4 = .ok (.invokevirtual 72, 3) := by decide +kernel
theorem dX5_die_7 : decode cX5_die 7 = .ok (.istore_n 1, 1) := by decide +kernel
theorem dX5_die_8 : decode cX5_die 8 = .ok (.iload_n 1, 1) := by decide +kernel
theorem dX5_die_9 : decode cX5_die 9 = .ok (.iconst 4, 1) := by decide +kernel
theorem dX5_die_10 : decode cX5_die 10 = .ok (.if_icmp .lt 13, 3) := by decide +kernel
theorem dX5_die_13 : decode cX5_die 13 = .ok (.new 76, 3) := by decide +kernel
theorem dX5_die_16 : decode cX5_die 16 = .ok (.dup, 1) := by decide +kernel
theorem dX5_die_17 : decode cX5_die 17 = .ok (.ldc 196, 2) := by decide +kernel
theorem dX5_die_19 : decode cX5_die 19 = .ok (.invokespecial 80, 3) := by decide +kernel
theorem dX5_die_22 : decode cX5_die 22 = .ok (.athrow, 1) := by decide +kernel
theorem dX5_die_23 : decode cX5_die 23 = .ok (.aload_n 0, 1) := by decide +kernel
theorem dX5_die_24 : decode cX5_die 24 = .ok (.getfield 25, 3) := by decide +kernel
theorem dX5_die_27 : decode cX5_die 27 = .ok (.new 198, 3) := by decide +kernel
theorem dX5_die_30 : decode cX5_die 30 = .ok (.dup, 1) := by decide +kernel
theorem dX5_die_31 : decode cX5_die 31 = .ok (.invokespecial 200, 3) := by decide +kernel
theorem dX5_die_34 : decode cX5_die 34 = .ok (.invokevirtual 81, 3) := by decide +kernel
theorem dX5_die_37 : decode cX5_die 37 = .ok (.pop, 1) := by decide +kernel
theorem dX5_die_38 : decode cX5_die 38 = .ok (.iload_n 1, 1) := by decide +kernel
theorem dX5_die_39 : decode cX5_die 39 = .ok (.ireturn, 1) := by decide +kernel
set_option maxRecDepth 20000 in
theorem ggX5_shape_X5_dieAt : GoodIn wsX5_shape wsX5_dieAt := goodIn_ca (goodIn_r _ [8, 9, 10, 11, 12, 13, 14, 15, 16, 17, 18, 19, 20, 21, 22, 23, 24, 25, 26, 27, 28, 29, 30, 31, 32, 33, 34, 35, 41, 42, 43, 44, 45, 46, 47, 48, 49, 50, 51] (by decide +kernel) (by decide +kernel)) (goodIn_sub (fun _ h => List.mem_cons_of_mem _ (List.mem_append_right _ h)) (by decide +kernel))
set_option maxRecDepth 20000 in
theorem gX5_shape_X5_dieAt : GoodIn wsX5_shape (wsV RX5 201 RX5 yX5_dieAt wsX5_dieAt) := goodIn_app (goodIn_of _ (by decide +kernel)) ggX5_shape_X5_dieAt
set_option maxRecDepth 20000 in
theorem ggX5_shape_X5_refuseNoSection : GoodIn wsX5_shape wsX5_refuseNoSection := goodIn_ca (goodIn_r _ [38, 9, 10] (by decide +kernel) (by decide +kernel)) (goodIn_sub (fun _ h => List.mem_cons_of_mem _ (List.mem_append_right _ h)) (by decide +kernel))
set_option maxRecDepth 20000 in
theorem gX5_shape_X5_refuseNoSection : GoodIn wsX5_shape (va_wsS RX5 137 yX5_refuseNoSection wsX5_refuseNoSection) := goodIn_app (goodIn_of _ (by decide +kernel)) ggX5_shape_X5_refuseNoSection
theorem dX5_shape_0 : decode cX5_shape 0 = .ok (.aload_n 0, 1) := by decide +kernel
theorem dX5_shape_1 : decode cX5_shape 1 = .ok (.iload_n 1, 1) := by decide +kernel
theorem dX5_shape_2 : decode cX5_shape 2 = .ok (.invokevirtual 201, 3) := by decide +kernel
theorem dX5_shape_5 : decode cX5_shape 5 = .ok (.astore 4, 2) := by decide +kernel
theorem dX5_shape_7 : decode cX5_shape 7 = .ok (.iload_n 2, 1) := by decide +kernel
theorem dX5_shape_8 : decode cX5_shape 8 = .ok (.invokestatic 137, 3) := by decide +kernel
theorem dX5_shape_11 : decode cX5_shape 11 = .ok (.iload_n 3, 1) := by decide +kernel
theorem dX5_shape_12 : decode cX5_shape 12 = .ok (.iconst 1, 1) := by decide +kernel
theorem dX5_shape_13 : decode cX5_shape 13 = .ok (.if_icmp .lt 10, 3) := by decide +kernel
theorem dX5_shape_16 : decode cX5_shape 16 = .ok (.iload_n 3, 1) := by decide +kernel
theorem dX5_shape_17 : decode cX5_shape 17 = .ok (.sipush 400, 3) := by decide +kernel
theorem dX5_shape_20 : decode cX5_shape 20 = .ok (.if_icmp .le 13, 3) := by decide +kernel
theorem dX5_shape_23 : decode cX5_shape 23 = .ok (.new 51, 3) := by decide +kernel
theorem dX5_shape_26 : decode cX5_shape 26 = .ok (.dup, 1) := by decide +kernel
theorem dX5_shape_27 : decode cX5_shape 27 = .ok (.ldc 205, 2) := by decide +kernel
theorem dX5_shape_29 : decode cX5_shape 29 = .ok (.invokespecial 55, 3) := by decide +kernel
theorem dX5_shape_32 : decode cX5_shape 32 = .ok (.athrow, 1) := by decide +kernel
theorem dX5_shape_33 : decode cX5_shape 33 = .ok (.aload 4, 2) := by decide +kernel
theorem dX5_shape_35 : decode cX5_shape 35 = .ok (.getfield 207, 3) := by decide +kernel
theorem dX5_shape_38 : decode cX5_shape 38 = .ok (.iload_n 2, 1) := by decide +kernel
theorem dX5_shape_39 : decode cX5_shape 39 = .ok (.iaload, 1) := by decide +kernel
theorem dX5_shape_40 : decode cX5_shape 40 = .ok (.istore 5, 2) := by decide +kernel
theorem dX5_shape_42 : decode cX5_shape 42 = .ok (.aload 4, 2) := by decide +kernel
theorem dX5_shape_44 : decode cX5_shape 44 = .ok (.getfield 207, 3) := by decide +kernel
theorem dX5_shape_47 : decode cX5_shape 47 = .ok (.iload_n 2, 1) := by decide +kernel
theorem dX5_shape_48 : decode cX5_shape 48 = .ok (.iload_n 3, 1) := by decide +kernel
theorem dX5_shape_49 : decode cX5_shape 49 = .ok (.iastore, 1) := by decide +kernel
theorem dX5_shape_50 : decode cX5_shape 50 = .ok (.iload 5, 2) := by decide +kernel
theorem dX5_shape_52 : decode cX5_shape 52 = .ok (.ireturn, 1) := by decide +kernel
set_option maxRecDepth 20000 in
theorem ggX5_sink_X5_dieAt : GoodIn wsX5_sink wsX5_dieAt := goodIn_ca (goodIn_r _ [6, 7, 8, 9, 10, 11, 12, 13, 14, 15, 16, 17, 18, 19, 20, 21, 22, 23, 24, 25, 26, 27, 28, 29, 30, 31, 32, 33, 36, 37, 38, 39, 40, 41, 42, 43, 44, 45, 46] (by decide +kernel) (by decide +kernel)) (goodIn_sub (fun _ h => List.mem_cons_of_mem _ (List.mem_append_right _ h)) (by decide +kernel))
set_option maxRecDepth 20000 in
theorem gX5_sink_X5_dieAt : GoodIn wsX5_sink (wsV RX5 201 RX5 yX5_dieAt wsX5_dieAt) := goodIn_app (goodIn_of _ (by decide +kernel)) ggX5_sink_X5_dieAt
theorem dX5_sink_0 : decode cX5_sink 0 = .ok (.aload_n 0, 1) := by decide +kernel
theorem dX5_sink_1 : decode cX5_sink 1 = .ok (.iload_n 1, 1) := by decide +kernel
theorem dX5_sink_2 : decode cX5_sink 2 = .ok (.invokevirtual 201, 3) := by decide +kernel
theorem dX5_sink_5 : decode cX5_sink 5 = .ok (.astore_n 2, 1) := by decide +kernel
theorem dX5_sink_6 : decode cX5_sink 6 = .ok (.aload_n 2, 1) := by decide +kernel
theorem dX5_sink_7 : decode cX5_sink 7 = .ok (.getfield 208, 3) := by decide +kernel
theorem dX5_sink_10 : decode cX5_sink 10 = .ok (.istore_n 3, 1) := by decide +kernel
theorem dX5_sink_11 : decode cX5_sink 11 = .ok (.aload_n 2, 1) := by decide +kernel
theorem dX5_sink_12 : decode cX5_sink 12 = .ok (.bipush 100, 2) := by decide +kernel
theorem dX5_sink_14 : decode cX5_sink 14 = .ok (.putfield 208, 3) := by decide +kernel
theorem dX5_sink_17 : decode cX5_sink 17 = .ok (.iload_n 3, 1) := by decide +kernel
theorem dX5_sink_18 : decode cX5_sink 18 = .ok (.ireturn, 1) := by decide +kernel
set_option maxRecDepth 20000 in
theorem ggX5_press_X5_billetAt : GoodIn wsX5_press wsX5_billetAt := goodIn_ca (goodIn_r _ [11, 12, 13, 14, 15, 16, 17, 18, 19, 20, 21, 22, 23, 24, 25, 26, 27, 28, 29, 30, 31, 32, 33, 34, 35, 36, 37, 38, 114, 115, 116, 117, 118, 119, 120, 121, 122, 123, 124] (by decide +kernel) (by decide +kernel)) (goodIn_sub (fun _ h => List.mem_cons_of_mem _ (List.mem_append_right _ h)) (by decide +kernel))
set_option maxRecDepth 20000 in
theorem gX5_press_X5_billetAt : GoodIn wsX5_press (wsV RX5 103 RX5 yX5_billetAt wsX5_billetAt) := goodIn_app (goodIn_of _ (by decide +kernel)) ggX5_press_X5_billetAt
set_option maxRecDepth 20000 in
theorem ggX5_press_X5_dieAt : GoodIn wsX5_press wsX5_dieAt := goodIn_ca (goodIn_r _ [42, 12, 13, 43, 44, 16, 17, 18, 19, 20, 21, 22, 23, 24, 25, 26, 27, 28, 29, 30, 31, 32, 33, 34, 35, 36, 37, 38, 114, 115, 116, 117, 118, 119, 120, 121, 122, 123, 124] (by decide +kernel) (by decide +kernel)) (goodIn_sub (fun _ h => List.mem_cons_of_mem _ (List.mem_append_right _ h)) (by decide +kernel))
set_option maxRecDepth 20000 in
theorem gX5_press_X5_dieAt : GoodIn wsX5_press (wsV RX5 201 RX5 yX5_dieAt wsX5_dieAt) := goodIn_app (goodIn_of _ (by decide +kernel)) ggX5_press_X5_dieAt
set_option maxRecDepth 20000 in
theorem ggX5_press_X0_squeezeInto : GoodIn wsX5_press wsX0_squeezeInto := goodIn_r _ [49, 50, 51, 52, 53, 54, 48, 55, 56, 57, 58, 59, 60, 61, 62, 63, 64, 65, 66, 67, 68, 69, 70, 71, 72, 73, 74, 75, 76, 77, 78, 79, 80, 81, 82, 83, 84, 85, 86, 87, 88, 89, 90, 91, 92, 93, 94, 95, 96, 97, 98, 99, 100, 101, 102, 103, 104, 105, 106, 107, 108, 109, 110, 111, 112, 113] (by decide +kernel) (by decide +kernel)
set_option maxRecDepth 20000 in
theorem gX5_press_X0_squeezeInto : GoodIn wsX5_press (wsV RX5 215 RX0 yX0_squeezeInto wsX0_squeezeInto) := goodIn_app (goodIn_of _ (by decide +kernel)) ggX5_press_X0_squeezeInto
theorem dX5_press_0 : decode cX5_press 0 = .ok (.aload_n 0, 1) := by decide +kernel
theorem dX5_press_1 : decode cX5_press 1 = .ok (.iload_n 1, 1) := by decide +kernel
theorem dX5_press_2 : decode cX5_press 2 = .ok (.invokevirtual 103, 3) := by decide +kernel
theorem dX5_press_5 : decode cX5_press 5 = .ok (.astore 4, 2) := by decide +kernel
theorem dX5_press_7 : decode cX5_press 7 = .ok (.aload_n 0, 1) := by decide +kernel
theorem dX5_press_8 : decode cX5_press 8 = .ok (.iload_n 2, 1) := by decide +kernel
theorem dX5_press_9 : decode cX5_press 9 = .ok (.invokevirtual 201, 3) := by decide +kernel
theorem dX5_press_12 : decode cX5_press 12 = .ok (.astore 5, 2) := by decide +kernel
theorem dX5_press_14 : decode cX5_press 14 = .ok (.iload_n 3, 1) := by decide +kernel
theorem dX5_press_15 : decode cX5_press 15 = .ok (.iconst 1, 1) := by decide +kernel
theorem dX5_press_16 : decode cX5_press 16 = .ok (.if_icmp .lt 9, 3) := by decide +kernel
theorem dX5_press_19 : decode cX5_press 19 = .ok (.iload_n 3, 1) := by decide +kernel
theorem dX5_press_20 : decode cX5_press 20 = .ok (.bipush 50, 2) := by decide +kernel
theorem dX5_press_22 : decode cX5_press 22 = .ok (.if_icmp .le 13, 3) := by decide +kernel
theorem dX5_press_25 : decode cX5_press 25 = .ok (.new 51, 3) := by decide +kernel
theorem dX5_press_28 : decode cX5_press 28 = .ok (.dup, 1) := by decide +kernel
theorem dX5_press_29 : decode cX5_press 29 = .ok (.ldc 211, 2) := by decide +kernel
theorem dX5_press_31 : decode cX5_press 31 = .ok (.invokespecial 55, 3) := by decide +kernel
theorem dX5_press_34 : decode cX5_press 34 = .ok (.athrow, 1) := by decide +kernel
theorem dX5_press_35 : decode cX5_press 35 = .ok (.aload 4, 2) := by decide +kernel
theorem dX5_press_37 : decode cX5_press 37 = .ok (.getfield 125, 3) := by decide +kernel
theorem dX5_press_40 : decode cX5_press 40 = .ok (.ifCond .eq 13, 3) := by decide +kernel
theorem dX5_press_43 : decode cX5_press 43 = .ok (.new 76, 3) := by decide +kernel
theorem dX5_press_46 : decode cX5_press 46 = .ok (.dup, 1) := by decide +kernel
theorem dX5_press_47 : decode cX5_press 47 = .ok (.ldc 178, 2) := by decide +kernel
theorem dX5_press_49 : decode cX5_press 49 = .ok (.invokespecial 80, 3) := by decide +kernel
theorem dX5_press_52 : decode cX5_press 52 = .ok (.athrow, 1) := by decide +kernel
theorem dX5_press_53 : decode cX5_press 53 = .ok (.aload 5, 2) := by decide +kernel
theorem dX5_press_55 : decode cX5_press 55 = .ok (.getfield 208, 3) := by decide +kernel
theorem dX5_press_58 : decode cX5_press 58 = .ok (.ifCond .gt 13, 3) := by decide +kernel
theorem dX5_press_61 : decode cX5_press 61 = .ok (.new 76, 3) := by decide +kernel
theorem dX5_press_64 : decode cX5_press 64 = .ok (.dup, 1) := by decide +kernel
theorem dX5_press_65 : decode cX5_press 65 = .ok (.ldc 213, 2) := by decide +kernel
theorem dX5_press_67 : decode cX5_press 67 = .ok (.invokespecial 80, 3) := by decide +kernel
theorem dX5_press_70 : decode cX5_press 70 = .ok (.athrow, 1) := by decide +kernel
theorem dX5_press_71 : decode cX5_press 71 = .ok (.aload 4, 2) := by decide +kernel
theorem dX5_press_73 : decode cX5_press 73 = .ok (.aload 5, 2) := by decide +kernel
theorem dX5_press_75 : decode cX5_press 75 = .ok (.iload_n 3, 1) := by decide +kernel
theorem dX5_press_76 : decode cX5_press 76 = .ok (.invokevirtual 215, 3) := by decide +kernel
theorem dX5_press_79 : decode cX5_press 79 = .ok (.ireturn, 1) := by decide +kernel
set_option maxRecDepth 20000 in
theorem ggX5_quench_Jx4a65c_size_8abf5 : GoodIn wsX5_quench wsJx4a65c_size_8abf5 := goodIn_r _ [12, 13, 79, 80, 81] (by decide +kernel) (by decide +kernel)
set_option maxRecDepth 20000 in
theorem gX5_quench_Jx4a65c_size_8abf5 : GoodIn wsX5_quench (wsV RX5 72 RJx4a65c yJx4a65c_size_8abf5 wsJx4a65c_size_8abf5) := goodIn_app (goodIn_of _ (by decide +kernel)) ggX5_quench_Jx4a65c_size_8abf5
set_option maxRecDepth 20000 in
theorem ggX5_quench_X5_canBeQuenched : GoodIn wsX5_quench wsX5_canBeQuenched := goodIn_r _ [18, 5, 7, 19, 20, 8, 9, 10, 11, 12, 13, 21, 22, 23, 24, 25, 26, 27, 28, 29, 30, 31, 32, 33, 34, 35, 36, 37, 38, 39, 17, 40, 71, 72, 73, 74, 75, 76, 77, 78, 82, 83, 84, 85, 86, 87, 88, 89, 90, 91, 92, 93, 94, 95, 96, 97, 98, 99, 79, 80, 81] (by decide +kernel) (by decide +kernel)
set_option maxRecDepth 20000 in
theorem gX5_quench_X5_canBeQuenched : GoodIn wsX5_quench (wsV RX5 225 RX5 yX5_canBeQuenched wsX5_canBeQuenched) := goodIn_app (goodIn_of _ (by decide +kernel)) ggX5_quench_X5_canBeQuenched
set_option maxRecDepth 20000 in
theorem ggX5_quench_X5_isInSet : GoodIn wsX5_quench wsX5_isInSet := goodIn_r _ [40] (by decide +kernel) (by decide +kernel)
set_option maxRecDepth 20000 in
theorem gX5_quench_X5_isInSet : GoodIn wsX5_quench (va_wsS RX5 236 yX5_isInSet wsX5_isInSet) := goodIn_app (goodIn_of _ (by decide +kernel)) ggX5_quench_X5_isInSet
set_option maxRecDepth 20000 in
theorem ggX5_quench_Jx4a65c_get_915e3 : GoodIn wsX5_quench wsJx4a65c_get_915e3 := goodIn_r _ [24, 13, 25, 26, 27, 28, 29, 30, 31, 32, 33, 34, 35, 11, 36, 37, 79, 80, 81] (by decide +kernel) (by decide +kernel)
set_option maxRecDepth 20000 in
theorem gX5_quench_Jx4a65c_get_915e3 : GoodIn wsX5_quench (wsV RX5 96 RJx4a65c yJx4a65c_get_915e3 wsJx4a65c_get_915e3) := goodIn_app (goodIn_of _ (by decide +kernel)) ggX5_quench_Jx4a65c_get_915e3
set_option maxRecDepth 20000 in
theorem ggX5_quench_X0_plunge : GoodIn wsX5_quench wsX0_plunge := goodIn_r _ [45, 46, 47, 48, 49, 50, 51, 52, 53, 54, 55, 56, 57, 58, 59, 60, 61, 62, 63, 64, 65, 44, 66, 67, 17, 68, 69, 70, 82, 83, 84, 85, 86, 87, 88, 89, 90, 91, 92, 93, 94, 95, 96, 97, 98, 99, 100, 101, 102] (by decide +kernel) (by decide +kernel)
set_option maxRecDepth 20000 in
theorem gX5_quench_X0_plunge : GoodIn wsX5_quench (wsV RX5 240 RX0 yX0_plunge wsX0_plunge) := goodIn_app (goodIn_of _ (by decide +kernel)) ggX5_quench_X0_plunge
theorem dX5_quench_0 : decode cX5_quench 0 = .ok (.iload_n 1, 1) := by decide +kernel
theorem dX5_quench_1 : decode cX5_quench 1 = .ok (.ifCond .ne 13, 3) := by decide +kernel
theorem dX5_quench_4 : decode cX5_quench 4 = .ok (.new 51, 3) := by decide +kernel
theorem dX5_quench_7 : decode cX5_quench 7 = .ok (.dup, 1) := by decide +kernel
theorem dX5_quench_8 : decode cX5_quench 8 = .ok (.ldc 219, 2) := by decide +kernel
theorem dX5_quench_10 : decode cX5_quench 10 = .ok (.invokespecial 55, 3) := by decide +kernel
theorem dX5_quench_13 : decode cX5_quench 13 = .ok (.athrow, 1) := by decide +kernel
theorem dX5_quench_14 : decode cX5_quench 14 = .ok (.iload_n 1, 1) := by decide +kernel
theorem dX5_quench_15 : decode cX5_quench 15 = .ok (.aload_n 0, 1) := by decide +kernel
theorem dX5_quench_16 : decode cX5_quench 16 = .ok (.getfield 22, 3) := by decide +kernel
theorem dX5_quench_19 : decode cX5_quench 19 = .ok (.invokevirtual 72, 3) := by decide +kernel
theorem dX5_quench_22 : decode cX5_quench 22 = .ok (.iushr, 1) := by decide +kernel
theorem dX5_quench_23 : decode cX5_quench 23 = .ok (.ifCond .eq 13, 3) := by decide +kernel
theorem dX5_quench_26 : decode cX5_quench 26 = .ok (.new 51, 3) := by decide +kernel
theorem dX5_quench_29 : decode cX5_quench 29 = .ok (.dup, 1) := by decide +kernel
theorem dX5_quench_30 : decode cX5_quench 30 = .ok (.ldc 221, 2) := by decide +kernel
theorem dX5_quench_32 : decode cX5_quench 32 = .ok (.invokespecial 55, 3) := by decide +kernel
theorem dX5_quench_35 : decode cX5_quench 35 = .ok (.athrow, 1) := by decide +kernel
theorem dX5_quench_36 : decode cX5_quench 36 = .ok (.iload_n 2, 1) := by decide +kernel
theorem dX5_quench_37 : decode cX5_quench 37 = .ok (.ifCond .eq 18, 3) := by decide +kernel
theorem dX5_quench_40 : decode cX5_quench 40 = .ok (.iload_n 2, 1) := by decide +kernel
theorem dX5_quench_41 : decode cX5_quench 41 = .ok (.iconst 1, 1) := by decide +kernel
theorem dX5_quench_42 : decode cX5_quench 42 = .ok (.if_icmp .eq 13, 3) := by decide +kernel
theorem dX5_quench_45 : decode cX5_quench 45 = .ok (.new 51, 3) := by decide +kernel
theorem dX5_quench_48 : decode cX5_quench 48 = .ok (.dup, 1) := by decide +kernel
theorem dX5_quench_49 : decode cX5_quench 49 = .ok (.ldc 223, 2) := by decide +kernel
theorem dX5_quench_51 : decode cX5_quench 51 = .ok (.invokespecial 55, 3) := by decide +kernel
theorem dX5_quench_54 : decode cX5_quench 54 = .ok (.athrow, 1) := by decide +kernel
theorem dX5_quench_55 : decode cX5_quench 55 = .ok (.aload_n 0, 1) := by decide +kernel
theorem dX5_quench_56 : decode cX5_quench 56 = .ok (.iload_n 1, 1) := by decide +kernel
theorem dX5_quench_57 : decode cX5_quench 57 = .ok (.invokevirtual 225, 3) := by decide +kernel
theorem dX5_quench_60 : decode cX5_quench 60 = .ok (.ifCond .ne 13, 3) := by decide +kernel
theorem dX5_quench_63 : decode cX5_quench 63 = .ok (.new 76, 3) := by decide +kernel
theorem dX5_quench_66 : decode cX5_quench 66 = .ok (.dup, 1) := by decide +kernel
theorem dX5_quench_67 : decode cX5_quench 67 = .ok (.ldc 229, 2) := by decide +kernel
theorem dX5_quench_69 : decode cX5_quench 69 = .ok (.invokespecial 80, 3) := by decide +kernel
theorem dX5_quench_72 : decode cX5_quench 72 = .ok (.athrow, 1) := by decide +kernel
theorem dX5_quench_73 : decode cX5_quench 73 = .ok (.aload_n 0, 1) := by decide +kernel
theorem dX5_quench_74 : decode cX5_quench 74 = .ok (.getfield 231, 3) := by decide +kernel
theorem dX5_quench_77 : decode cX5_quench 77 = .ok (.bipush 20, 2) := by decide +kernel
theorem dX5_quench_79 : decode cX5_quench 79 = .ok (.if_icmp .lt 13, 3) := by decide +kernel
theorem dX5_quench_82 : decode cX5_quench 82 = .ok (.new 76, 3) := by decide +kernel
theorem dX5_quench_85 : decode cX5_quench 85 = .ok (.dup, 1) := by decide +kernel
theorem dX5_quench_86 : decode cX5_quench 86 = .ok (.ldc 234, 2) := by decide +kernel
theorem dX5_quench_88 : decode cX5_quench 88 = .ok (.invokespecial 80, 3) := by decide +kernel
theorem dX5_quench_91 : decode cX5_quench 91 = .ok (.athrow, 1) := by decide +kernel
theorem dX5_quench_92 : decode cX5_quench 92 = .ok (.aload_n 0, 1) := by decide +kernel
theorem dX5_quench_93 : decode cX5_quench 93 = .ok (.getfield 231, 3) := by decide +kernel
theorem dX5_quench_96 : decode cX5_quench 96 = .ok (.istore_n 3, 1) := by decide +kernel
theorem dX5_quench_97 : decode cX5_quench 97 = .ok (.aload_n 0, 1) := by decide +kernel
theorem dX5_quench_98 : decode cX5_quench 98 = .ok (.dup, 1) := by decide +kernel
theorem dX5_quench_99 : decode cX5_quench 99 = .ok (.getfield 231, 3) := by decide +kernel
theorem dX5_quench_102 : decode cX5_quench 102 = .ok (.iconst 1, 1) := by decide +kernel
theorem dX5_quench_103 : decode cX5_quench 103 = .ok (.iadd, 1) := by decide +kernel
theorem dX5_quench_104 : decode cX5_quench 104 = .ok (.putfield 231, 3) := by decide +kernel
theorem dX5_quench_107 : decode cX5_quench 107 = .ok (.iconst 0, 1) := by decide +kernel
theorem dX5_quench_108 : decode cX5_quench 108 = .ok (.istore 4, 2) := by decide +kernel
theorem dX5_quench_110 : decode cX5_quench 110 = .ok (.iload 4, 2) := by decide +kernel
theorem dX5_quench_112 : decode cX5_quench 112 = .ok (.aload_n 0, 1) := by decide +kernel
theorem dX5_quench_113 : decode cX5_quench 113 = .ok (.getfield 22, 3) := by decide +kernel
theorem dX5_quench_116 : decode cX5_quench 116 = .ok (.invokevirtual 72, 3) := by decide +kernel
theorem dX5_quench_119 : decode cX5_quench 119 = .ok (.if_icmp .ge 44, 3) := by decide +kernel
theorem dX5_quench_122 : decode cX5_quench 122 = .ok (.iload_n 1, 1) := by decide +kernel
theorem dX5_quench_123 : decode cX5_quench 123 = .ok (.iload 4, 2) := by decide +kernel
theorem dX5_quench_125 : decode cX5_quench 125 = .ok (.invokestatic 236, 3) := by decide +kernel
theorem dX5_quench_128 : decode cX5_quench 128 = .ok (.ifCond .eq 29, 3) := by decide +kernel
theorem dX5_quench_131 : decode cX5_quench 131 = .ok (.aload_n 0, 1) := by decide +kernel
theorem dX5_quench_132 : decode cX5_quench 132 = .ok (.getfield 22, 3) := by decide +kernel
theorem dX5_quench_135 : decode cX5_quench 135 = .ok (.iload 4, 2) := by decide +kernel
theorem dX5_quench_137 : decode cX5_quench 137 = .ok (.invokevirtual 96, 3) := by decide +kernel
theorem dX5_quench_140 : decode cX5_quench 140 = .ok (.checkcast 94, 3) := by decide +kernel
theorem dX5_quench_143 : decode cX5_quench 143 = .ok (.iload_n 3, 1) := by decide +kernel
theorem dX5_quench_144 : decode cX5_quench 144 = .ok (.iload_n 2, 1) := by decide +kernel
theorem dX5_quench_145 : decode cX5_quench 145 = .ok (.iconst 1, 1) := by decide +kernel
theorem dX5_quench_146 : decode cX5_quench 146 = .ok (.if_icmp .ne 7, 3) := by decide +kernel
theorem dX5_quench_149 : decode cX5_quench 149 = .ok (.iconst 1, 1) := by decide +kernel
theorem dX5_quench_150 : decode cX5_quench 150 = .ok (.goto 4, 3) := by decide +kernel
theorem dX5_quench_153 : decode cX5_quench 153 = .ok (.iconst 0, 1) := by decide +kernel
theorem dX5_quench_154 : decode cX5_quench 154 = .ok (.invokevirtual 240, 3) := by decide +kernel
theorem dX5_quench_157 : decode cX5_quench 157 = .ok (.iinc 4 1, 3) := by decide +kernel
theorem dX5_quench_160 : decode cX5_quench 160 = .ok (.goto (-50), 3) := by decide +kernel
theorem dX5_quench_163 : decode cX5_quench 163 = .ok (.iload_n 3, 1) := by decide +kernel
theorem dX5_quench_164 : decode cX5_quench 164 = .ok (.ireturn, 1) := by decide +kernel
set_option maxRecDepth 20000 in
theorem ggX5_temper_X5_billetAt : GoodIn wsX5_temper wsX5_billetAt := goodIn_ca (goodIn_r _ [15, 16, 17, 18, 19, 20, 21, 22, 23, 24, 25, 26, 27, 28, 29, 30, 31, 32, 33, 34, 35, 36, 37, 38, 39, 40, 41, 42, 82, 83, 84, 85, 86, 87, 88, 89, 90, 91, 92] (by decide +kernel) (by decide +kernel)) (goodIn_sub (fun _ h => List.mem_cons_of_mem _ (List.mem_append_right _ h)) (by decide +kernel))
set_option maxRecDepth 20000 in
theorem gX5_temper_X5_billetAt : GoodIn wsX5_temper (wsV RX5 103 RX5 yX5_billetAt wsX5_billetAt) := goodIn_app (goodIn_of _ (by decide +kernel)) ggX5_temper_X5_billetAt
set_option maxRecDepth 20000 in
theorem ggX5_temper_X5_isLoad : GoodIn wsX5_temper wsX5_isLoad := goodIn_r _ [46, 47, 82, 83, 84, 85, 86, 87, 88, 89] (by decide +kernel) (by decide +kernel)
set_option maxRecDepth 20000 in
theorem gX5_temper_X5_isLoad : GoodIn wsX5_temper (wsV RX5 246 RX5 yX5_isLoad wsX5_isLoad) := goodIn_app (goodIn_of _ (by decide +kernel)) ggX5_temper_X5_isLoad
set_option maxRecDepth 20000 in
theorem ggX5_temper_X0_leastHardness : GoodIn wsX5_temper wsX0_leastHardness := goodIn_r _ [52, 53, 54, 9, 55, 56, 57, 58, 51, 59, 60, 61, 62, 63, 8, 10, 64, 65, 66, 67, 68, 69, 70, 71, 72, 73, 74, 75, 76, 77, 78, 79, 80, 81] (by decide +kernel) (by decide +kernel)
set_option maxRecDepth 20000 in
theorem gX5_temper_X0_leastHardness : GoodIn wsX5_temper (wsV RX5 257 RX0 yX0_leastHardness wsX0_leastHardness) := goodIn_app (goodIn_of _ (by decide +kernel)) ggX5_temper_X0_leastHardness
theorem dX5_temper_0 : decode cX5_temper 0 = .ok (.aload_n 0, 1) := by decide +kernel
theorem dX5_temper_1 : decode cX5_temper 1 = .ok (.iload_n 1, 1) := by decide +kernel
theorem dX5_temper_2 : decode cX5_temper 2 = .ok (.invokevirtual 103, 3) := by decide +kernel
theorem dX5_temper_5 : decode cX5_temper 5 = .ok (.astore_n 3, 1) := by decide +kernel
theorem dX5_temper_6 : decode cX5_temper 6 = .ok (.iload_n 2, 1) := by decide +kernel
theorem dX5_temper_7 : decode cX5_temper 7 = .ok (.bipush 100, 2) := by decide +kernel
theorem dX5_temper_9 : decode cX5_temper 9 = .ok (.if_icmp .lt 10, 3) := by decide +kernel
theorem dX5_temper_12 : decode cX5_temper 12 = .ok (.iload_n 2, 1) := by decide +kernel
theorem dX5_temper_13 : decode cX5_temper 13 = .ok (.sipush 700, 3) := by decide +kernel
theorem dX5_temper_16 : decode cX5_temper 16 = .ok (.if_icmp .le 13, 3) := by decide +kernel
theorem dX5_temper_19 : decode cX5_temper 19 = .ok (.new 51, 3) := by decide +kernel
theorem dX5_temper_22 : decode cX5_temper 22 = .ok (.dup, 1) := by decide +kernel
theorem dX5_temper_23 : decode cX5_temper 23 = .ok (.ldc 244, 2) := by decide +kernel
theorem dX5_temper_25 : decode cX5_temper 25 = .ok (.invokespecial 55, 3) := by decide +kernel
theorem dX5_temper_28 : decode cX5_temper 28 = .ok (.athrow, 1) := by decide +kernel
theorem dX5_temper_29 : decode cX5_temper 29 = .ok (.aload_n 0, 1) := by decide +kernel
theorem dX5_temper_30 : decode cX5_temper 30 = .ok (.aload_n 3, 1) := by decide +kernel
theorem dX5_temper_31 : decode cX5_temper 31 = .ok (.getfield 132, 3) := by decide +kernel
theorem dX5_temper_34 : decode cX5_temper 34 = .ok (.invokevirtual 246, 3) := by decide +kernel
theorem dX5_temper_37 : decode cX5_temper 37 = .ok (.ifCond .ne 13, 3) := by decide +kernel
theorem dX5_temper_40 : decode cX5_temper 40 = .ok (.new 76, 3) := by decide +kernel
theorem dX5_temper_43 : decode cX5_temper 43 = .ok (.dup, 1) := by decide +kernel
theorem dX5_temper_44 : decode cX5_temper 44 = .ok (.ldc 249, 2) := by decide +kernel
theorem dX5_temper_46 : decode cX5_temper 46 = .ok (.invokespecial 80, 3) := by decide +kernel
theorem dX5_temper_49 : decode cX5_temper 49 = .ok (.athrow, 1) := by decide +kernel
theorem dX5_temper_50 : decode cX5_temper 50 = .ok (.aload_n 3, 1) := by decide +kernel
theorem dX5_temper_51 : decode cX5_temper 51 = .ok (.aload_n 3, 1) := by decide +kernel
theorem dX5_temper_52 : decode cX5_temper 52 = .ok (.getfield 251, 3) := by decide +kernel
theorem dX5_temper_55 : decode cX5_temper 55 = .ok (.iload_n 2, 1) := by decide +kernel
theorem dX5_temper_56 : decode cX5_temper 56 = .ok (.invokestatic 254, 3) := by decide +kernel
theorem dX5_temper_59 : decode cX5_temper 59 = .ok (.putfield 251, 3) := by decide +kernel
theorem dX5_temper_62 : decode cX5_temper 62 = .ok (.aload_n 3, 1) := by decide +kernel
theorem dX5_temper_63 : decode cX5_temper 63 = .ok (.invokevirtual 257, 3) := by decide +kernel
theorem dX5_temper_66 : decode cX5_temper 66 = .ok (.ireturn, 1) := by decide +kernel
set_option maxRecDepth 20000 in
theorem ggX5_hardness_X5_billetAt : GoodIn wsX5_hardness wsX5_billetAt := goodIn_ca (goodIn_r _ [5, 6, 7, 8, 9, 10, 11, 12, 13, 14, 15, 16, 17, 18, 19, 20, 21, 22, 23, 24, 25, 26, 27, 28, 29, 30, 31, 32, 48, 49, 50, 51, 52, 53, 54, 55, 56, 57, 58] (by decide +kernel) (by decide +kernel)) (goodIn_sub (fun _ h => List.mem_cons_of_mem _ (List.mem_append_right _ h)) (by decide +kernel))
set_option maxRecDepth 20000 in
theorem gX5_hardness_X5_billetAt : GoodIn wsX5_hardness (wsV RX5 103 RX5 yX5_billetAt wsX5_billetAt) := goodIn_app (goodIn_of _ (by decide +kernel)) ggX5_hardness_X5_billetAt
set_option maxRecDepth 20000 in
theorem ggX5_hardness_X5_refuseNoSection : GoodIn wsX5_hardness wsX5_refuseNoSection := goodIn_ca (goodIn_r _ [35, 6, 7] (by decide +kernel) (by decide +kernel)) (goodIn_sub (fun _ h => List.mem_cons_of_mem _ (List.mem_append_right _ h)) (by decide +kernel))
set_option maxRecDepth 20000 in
theorem gX5_hardness_X5_refuseNoSection : GoodIn wsX5_hardness (va_wsS RX5 137 yX5_refuseNoSection wsX5_refuseNoSection) := goodIn_app (goodIn_of _ (by decide +kernel)) ggX5_hardness_X5_refuseNoSection
set_option maxRecDepth 20000 in
theorem ggX5_hardness_X0_hardnessAt : GoodIn wsX5_hardness wsX0_hardnessAt := goodIn_r _ [40, 41, 42, 43, 44, 45, 46, 47, 59, 60, 61, 62, 63, 64, 65, 66, 67, 68, 69, 70, 71, 72, 73, 74, 75, 76] (by decide +kernel) (by decide +kernel)
set_option maxRecDepth 20000 in
theorem gX5_hardness_X0_hardnessAt : GoodIn wsX5_hardness (wsV RX5 260 RX0 yX0_hardnessAt wsX0_hardnessAt) := goodIn_app (goodIn_of _ (by decide +kernel)) ggX5_hardness_X0_hardnessAt
theorem dX5_hardness_0 : decode cX5_hardness 0 = .ok (.aload_n 0, 1) := by decide +kernel
theorem dX5_hardness_1 : decode cX5_hardness 1 = .ok (.iload_n 1, 1) := by decide +kernel
theorem dX5_hardness_2 : decode cX5_hardness 2 = .ok (.invokevirtual 103, 3) := by decide +kernel
theorem dX5_hardness_5 : decode cX5_hardness 5 = .ok (.astore_n 3, 1) := by decide +kernel
theorem dX5_hardness_6 : decode cX5_hardness 6 = .ok (.iload_n 2, 1) := by decide +kernel
theorem dX5_hardness_7 : decode cX5_hardness 7 = .ok (.invokestatic 137, 3) := by decide +kernel
theorem dX5_hardness_10 : decode cX5_hardness 10 = .ok (.aload_n 3, 1) := by decide +kernel
theorem dX5_hardness_11 : decode cX5_hardness 11 = .ok (.iload_n 2, 1) := by decide +kernel
theorem dX5_hardness_12 : decode cX5_hardness 12 = .ok (.invokevirtual 260, 3) := by decide +kernel
theorem dX5_hardness_15 : decode cX5_hardness 15 = .ok (.ireturn, 1) := by decide +kernel
set_option maxRecDepth 20000 in
theorem ggX5_test_X5_billetAt : GoodIn wsX5_test wsX5_billetAt := goodIn_ca (goodIn_r _ [11, 12, 13, 14, 15, 16, 17, 18, 19, 20, 21, 22, 23, 24, 25, 26, 27, 28, 29, 30, 31, 32, 33, 34, 35, 36, 37, 38, 80, 81, 82, 83, 84, 85, 86, 87, 88, 89, 90] (by decide +kernel) (by decide +kernel)) (goodIn_sub (fun _ h => List.mem_cons_of_mem _ (List.mem_append_right _ h)) (by decide +kernel))
set_option maxRecDepth 20000 in
theorem gX5_test_X5_billetAt : GoodIn wsX5_test (wsV RX5 103 RX5 yX5_billetAt wsX5_billetAt) := goodIn_app (goodIn_of _ (by decide +kernel)) ggX5_test_X5_billetAt
set_option maxRecDepth 20000 in
theorem ggX5_test_X5_isLoad : GoodIn wsX5_test wsX5_isLoad := goodIn_r _ [42, 4, 80, 81, 82, 83, 84, 85, 86, 87] (by decide +kernel) (by decide +kernel)
set_option maxRecDepth 20000 in
theorem gX5_test_X5_isLoad : GoodIn wsX5_test (wsV RX5 246 RX5 yX5_isLoad wsX5_isLoad) := goodIn_app (goodIn_of _ (by decide +kernel)) ggX5_test_X5_isLoad
set_option maxRecDepth 20000 in
theorem ggX5_test_X0_leastHardness : GoodIn wsX5_test wsX0_leastHardness := goodIn_r _ [47, 48, 49, 50, 51, 52, 53, 54, 46, 55, 56, 57, 58, 59, 60, 61, 62, 63, 64, 65, 66, 67, 68, 69, 70, 71, 72, 73, 74, 75, 76, 77, 78, 79] (by decide +kernel) (by decide +kernel)
set_option maxRecDepth 20000 in
theorem gX5_test_X0_leastHardness : GoodIn wsX5_test (wsV RX5 257 RX0 yX0_leastHardness wsX0_leastHardness) := goodIn_app (goodIn_of _ (by decide +kernel)) ggX5_test_X0_leastHardness
theorem dX5_test_0 : decode cX5_test 0 = .ok (.aload_n 0, 1) := by decide +kernel
theorem dX5_test_1 : decode cX5_test 1 = .ok (.iload_n 1, 1) := by decide +kernel
theorem dX5_test_2 : decode cX5_test 2 = .ok (.invokevirtual 103, 3) := by decide +kernel
theorem dX5_test_5 : decode cX5_test 5 = .ok (.astore_n 2, 1) := by decide +kernel
theorem dX5_test_6 : decode cX5_test 6 = .ok (.aload_n 0, 1) := by decide +kernel
theorem dX5_test_7 : decode cX5_test 7 = .ok (.aload_n 2, 1) := by decide +kernel
theorem dX5_test_8 : decode cX5_test 8 = .ok (.getfield 132, 3) := by decide +kernel
theorem dX5_test_11 : decode cX5_test 11 = .ok (.invokevirtual 246, 3) := by decide +kernel
theorem dX5_test_14 : decode cX5_test 14 = .ok (.ifCond .ne 13, 3) := by decide +kernel
theorem dX5_test_17 : decode cX5_test 17 = .ok (.new 76, 3) := by decide +kernel
theorem dX5_test_20 : decode cX5_test 20 = .ok (.dup, 1) := by decide +kernel
theorem dX5_test_21 : decode cX5_test 21 = .ok (.ldc 249, 2) := by decide +kernel
theorem dX5_test_23 : decode cX5_test 23 = .ok (.invokespecial 80, 3) := by decide +kernel
theorem dX5_test_26 : decode cX5_test 26 = .ok (.athrow, 1) := by decide +kernel
theorem dX5_test_27 : decode cX5_test 27 = .ok (.aload_n 0, 1) := by decide +kernel
theorem dX5_test_28 : decode cX5_test 28 = .ok (.getfield 28, 3) := by decide +kernel
theorem dX5_test_31 : decode cX5_test 31 = .ok (.aload_n 2, 1) := by decide +kernel
theorem dX5_test_32 : decode cX5_test 32 = .ok (.getfield 132, 3) := by decide +kernel
theorem dX5_test_35 : decode cX5_test 35 = .ok (.dup2, 1) := by decide +kernel
theorem dX5_test_36 : decode cX5_test 36 = .ok (.iaload, 1) := by decide +kernel
theorem dX5_test_37 : decode cX5_test 37 = .ok (.iconst 1, 1) := by decide +kernel
theorem dX5_test_38 : decode cX5_test 38 = .ok (.aload_n 2, 1) := by decide +kernel
theorem dX5_test_39 : decode cX5_test 39 = .ok (.getfield 263, 3) := by decide +kernel
theorem dX5_test_42 : decode cX5_test 42 = .ok (.ishl, 1) := by decide +kernel
theorem dX5_test_43 : decode cX5_test 43 = .ok (.ior, 1) := by decide +kernel
theorem dX5_test_44 : decode cX5_test 44 = .ok (.iastore, 1) := by decide +kernel
theorem dX5_test_45 : decode cX5_test 45 = .ok (.aload_n 2, 1) := by decide +kernel
theorem dX5_test_46 : decode cX5_test 46 = .ok (.iconst 0, 1) := by decide +kernel
theorem dX5_test_47 : decode cX5_test 47 = .ok (.putfield 266, 3) := by decide +kernel
theorem dX5_test_50 : decode cX5_test 50 = .ok (.aload_n 2, 1) := by decide +kernel
theorem dX5_test_51 : decode cX5_test 51 = .ok (.invokevirtual 257, 3) := by decide +kernel
theorem dX5_test_54 : decode cX5_test 54 = .ok (.ireturn, 1) := by decide +kernel
set_option maxRecDepth 20000 in
theorem ggX5_paper_X5_billetAt : GoodIn wsX5_paper wsX5_billetAt := goodIn_ca (goodIn_r _ [13, 14, 15, 16, 17, 18, 19, 20, 21, 22, 23, 24, 25, 26, 27, 28, 29, 30, 31, 32, 33, 34, 35, 36, 37, 38, 39, 40, 82, 83, 84, 85, 86, 87, 88, 89, 90, 91, 92] (by decide +kernel) (by decide +kernel)) (goodIn_sub (fun _ h => List.mem_cons_of_mem _ (List.mem_append_right _ h)) (by decide +kernel))
set_option maxRecDepth 20000 in
theorem gX5_paper_X5_billetAt : GoodIn wsX5_paper (wsV RX5 103 RX5 yX5_billetAt wsX5_billetAt) := goodIn_app (goodIn_of _ (by decide +kernel)) ggX5_paper_X5_billetAt
set_option maxRecDepth 20000 in
theorem ggX5_paper_X5_isLoad : GoodIn wsX5_paper wsX5_isLoad := goodIn_r _ [44, 7, 82, 83, 84, 85, 86, 87, 88, 89] (by decide +kernel) (by decide +kernel)
set_option maxRecDepth 20000 in
theorem gX5_paper_X5_isLoad : GoodIn wsX5_paper (wsV RX5 246 RX5 yX5_isLoad wsX5_isLoad) := goodIn_app (goodIn_of _ (by decide +kernel)) ggX5_paper_X5_isLoad
set_option maxRecDepth 20000 in
theorem ggX5_paper_X0_leastHardness : GoodIn wsX5_paper wsX0_leastHardness := goodIn_r _ [49, 50, 51, 52, 53, 54, 55, 56, 48, 57, 58, 59, 60, 61, 62, 63, 64, 65, 66, 67, 68, 69, 70, 71, 72, 73, 74, 75, 76, 77, 78, 79, 80, 81] (by decide +kernel) (by decide +kernel)
set_option maxRecDepth 20000 in
theorem gX5_paper_X0_leastHardness : GoodIn wsX5_paper (wsV RX5 257 RX0 yX0_leastHardness wsX0_leastHardness) := goodIn_app (goodIn_of _ (by decide +kernel)) ggX5_paper_X0_leastHardness
theorem dX5_paper_0 : decode cX5_paper 0 = .ok (.aload_n 0, 1) := by decide +kernel
theorem dX5_paper_1 : decode cX5_paper 1 = .ok (.iload_n 1, 1) := by decide +kernel
theorem dX5_paper_2 : decode cX5_paper 2 = .ok (.invokevirtual 103, 3) := by decide +kernel
theorem dX5_paper_5 : decode cX5_paper 5 = .ok (.astore_n 3, 1) := by decide +kernel
theorem dX5_paper_6 : decode cX5_paper 6 = .ok (.iload_n 2, 1) := by decide +kernel
theorem dX5_paper_7 : decode cX5_paper 7 = .ok (.ifCond .lt 9, 3) := by decide +kernel
theorem dX5_paper_10 : decode cX5_paper 10 = .ok (.iload_n 2, 1) := by decide +kernel
theorem dX5_paper_11 : decode cX5_paper 11 = .ok (.bipush 70, 2) := by decide +kernel
theorem dX5_paper_13 : decode cX5_paper 13 = .ok (.if_icmp .le 14, 3) := by decide +kernel
theorem dX5_paper_16 : decode cX5_paper 16 = .ok (.new 51, 3) := by decide +kernel
theorem dX5_paper_19 : decode cX5_paper 19 = .ok (.dup, 1) := by decide +kernel
theorem dX5_paper_20 : decode cX5_paper 20 = .ok (.ldc_w 269, 3) := by decide +kernel
theorem dX5_paper_23 : decode cX5_paper 23 = .ok (.invokespecial 55, 3) := by decide +kernel
theorem dX5_paper_26 : decode cX5_paper 26 = .ok (.athrow, 1) := by decide +kernel
theorem dX5_paper_27 : decode cX5_paper 27 = .ok (.aload_n 3, 1) := by decide +kernel
theorem dX5_paper_28 : decode cX5_paper 28 = .ok (.getfield 266, 3) := by decide +kernel
theorem dX5_paper_31 : decode cX5_paper 31 = .ok (.ifCond .eq 28, 3) := by decide +kernel
theorem dX5_paper_34 : decode cX5_paper 34 = .ok (.aload_n 3, 1) := by decide +kernel
theorem dX5_paper_35 : decode cX5_paper 35 = .ok (.getfield 125, 3) := by decide +kernel
theorem dX5_paper_38 : decode cX5_paper 38 = .ok (.ifCond .ne 21, 3) := by decide +kernel
theorem dX5_paper_41 : decode cX5_paper 41 = .ok (.aload_n 3, 1) := by decide +kernel
theorem dX5_paper_42 : decode cX5_paper 42 = .ok (.getfield 122, 3) := by decide +kernel
theorem dX5_paper_45 : decode cX5_paper 45 = .ok (.ifCond .gt 14, 3) := by decide +kernel
theorem dX5_paper_48 : decode cX5_paper 48 = .ok (.aload_n 0, 1) := by decide +kernel
theorem dX5_paper_49 : decode cX5_paper 49 = .ok (.aload_n 3, 1) := by decide +kernel
theorem dX5_paper_50 : decode cX5_paper 50 = .ok (.getfield 132, 3) := by decide +kernel
theorem dX5_paper_53 : decode cX5_paper 53 = .ok (.invokevirtual 246, 3) := by decide +kernel
theorem dX5_paper_56 : decode cX5_paper 56 = .ok (.ifCond .ne 5, 3) := by decide +kernel
theorem dX5_paper_59 : decode cX5_paper 59 = .ok (.iconst (-1), 1) := by decide +kernel
theorem dX5_paper_60 : decode cX5_paper 60 = .ok (.ireturn, 1) := by decide +kernel
theorem dX5_paper_61 : decode cX5_paper 61 = .ok (.aload_n 0, 1) := by decide +kernel
theorem dX5_paper_62 : decode cX5_paper 62 = .ok (.getfield 28, 3) := by decide +kernel
theorem dX5_paper_65 : decode cX5_paper 65 = .ok (.aload_n 3, 1) := by decide +kernel
theorem dX5_paper_66 : decode cX5_paper 66 = .ok (.getfield 132, 3) := by decide +kernel
theorem dX5_paper_69 : decode cX5_paper 69 = .ok (.iaload, 1) := by decide +kernel
theorem dX5_paper_70 : decode cX5_paper 70 = .ok (.iconst 1, 1) := by decide +kernel
theorem dX5_paper_71 : decode cX5_paper 71 = .ok (.aload_n 3, 1) := by decide +kernel
theorem dX5_paper_72 : decode cX5_paper 72 = .ok (.getfield 263, 3) := by decide +kernel
theorem dX5_paper_75 : decode cX5_paper 75 = .ok (.ishl, 1) := by decide +kernel
theorem dX5_paper_76 : decode cX5_paper 76 = .ok (.iand, 1) := by decide +kernel
theorem dX5_paper_77 : decode cX5_paper 77 = .ok (.ifCond .eq 7, 3) := by decide +kernel
theorem dX5_paper_80 : decode cX5_paper 80 = .ok (.iconst 1, 1) := by decide +kernel
theorem dX5_paper_81 : decode cX5_paper 81 = .ok (.goto 4, 3) := by decide +kernel
theorem dX5_paper_84 : decode cX5_paper 84 = .ok (.iconst 0, 1) := by decide +kernel
theorem dX5_paper_85 : decode cX5_paper 85 = .ok (.istore 4, 2) := by decide +kernel
theorem dX5_paper_87 : decode cX5_paper 87 = .ok (.iload 4, 2) := by decide +kernel
theorem dX5_paper_89 : decode cX5_paper 89 = .ok (.ifCond .eq 18, 3) := by decide +kernel
theorem dX5_paper_92 : decode cX5_paper 92 = .ok (.aload_n 3, 1) := by decide +kernel
theorem dX5_paper_93 : decode cX5_paper 93 = .ok (.invokevirtual 257, 3) := by decide +kernel
theorem dX5_paper_96 : decode cX5_paper 96 = .ok (.iload_n 2, 1) := by decide +kernel
theorem dX5_paper_97 : decode cX5_paper 97 = .ok (.if_icmp .lt 10, 3) := by decide +kernel
theorem dX5_paper_100 : decode cX5_paper 100 = .ok (.aload_n 3, 1) := by decide +kernel
theorem dX5_paper_101 : decode cX5_paper 101 = .ok (.getfield 263, 3) := by decide +kernel
theorem dX5_paper_104 : decode cX5_paper 104 = .ok (.goto 4, 3) := by decide +kernel
theorem dX5_paper_107 : decode cX5_paper 107 = .ok (.iconst (-1), 1) := by decide +kernel
theorem dX5_paper_108 : decode cX5_paper 108 = .ok (.ireturn, 1) := by decide +kernel
set_option maxRecDepth 20000 in
theorem ggX5_layer_X5_billetAt : GoodIn wsX5_layer wsX5_billetAt := goodIn_ca (goodIn_r _ [11, 12, 13, 14, 15, 16, 17, 18, 19, 20, 21, 22, 23, 24, 25, 26, 27, 28, 29, 30, 31, 32, 33, 34, 35, 36, 37, 38, 64, 65, 66, 67, 68, 69, 70, 71, 72, 73, 74] (by decide +kernel) (by decide +kernel)) (goodIn_sub (fun _ h => List.mem_cons_of_mem _ (List.mem_append_right _ h)) (by decide +kernel))
set_option maxRecDepth 20000 in
theorem gX5_layer_X5_billetAt : GoodIn wsX5_layer (wsV RX5 103 RX5 yX5_billetAt wsX5_billetAt) := goodIn_app (goodIn_of _ (by decide +kernel)) ggX5_layer_X5_billetAt
set_option maxRecDepth 20000 in
theorem ggX5_layer_X2_behind : GoodIn wsX5_layer wsX2_behind := goodIn_r _ [42, 43, 44, 41, 45] (by decide +kernel) (by decide +kernel)
set_option maxRecDepth 20000 in
theorem gX5_layer_X2_behind : GoodIn wsX5_layer (va_wsS RX5 275 yX2_behind wsX2_behind) := goodIn_app (goodIn_of _ (by decide +kernel)) ggX5_layer_X2_behind
theorem dX5_layer_0 : decode cX5_layer 0 = .ok (.aload_n 0, 1) := by decide +kernel
theorem dX5_layer_1 : decode cX5_layer 1 = .ok (.iload_n 1, 1) := by decide +kernel
theorem dX5_layer_2 : decode cX5_layer 2 = .ok (.invokevirtual 103, 3) := by decide +kernel
theorem dX5_layer_5 : decode cX5_layer 5 = .ok (.astore_n 3, 1) := by decide +kernel
theorem dX5_layer_6 : decode cX5_layer 6 = .ok (.iload_n 2, 1) := by decide +kernel
theorem dX5_layer_7 : decode cX5_layer 7 = .ok (.ifCond .lt 8, 3) := by decide +kernel
