theorem dX5_layer_10 : decode cX5_layer 10 = .ok (.iload_n 2, 1) := by decide +kernel
theorem dX5_layer_11 : decode cX5_layer 11 = .ok (.iconst 2, 1) := by decide +kernel
theorem dX5_layer_12 : decode cX5_layer 12 = .ok (.if_icmp .le 14, 3) := by decide +kernel
theorem dX5_layer_15 : decode cX5_layer 15 = .ok (.new 51, 3) := by decide +kernel
theorem dX5_layer_18 : decode cX5_layer 18 = .ok (.dup, 1) := by decide +kernel
theorem dX5_layer_19 : decode cX5_layer 19 = .ok (.ldc_w 271, 3) := by decide +kernel
theorem dX5_layer_22 : decode cX5_layer 22 = .ok (.invokespecial 55, 3) := by decide +kernel
theorem dX5_layer_25 : decode cX5_layer 25 = .ok (.athrow, 1) := by decide +kernel
theorem dX5_layer_26 : decode cX5_layer 26 = .ok (.aload_n 3, 1) := by decide +kernel
theorem dX5_layer_27 : decode cX5_layer 27 = .ok (.getfield 110, 3) := by decide +kernel
theorem dX5_layer_30 : decode cX5_layer 30 = .ok (.sipush 900, 3) := by decide +kernel
theorem dX5_layer_33 : decode cX5_layer 33 = .ok (.if_icmp .ge 14, 3) := by decide +kernel
theorem dX5_layer_36 : decode cX5_layer 36 = .ok (.new 76, 3) := by decide +kernel
theorem dX5_layer_39 : decode cX5_layer 39 = .ok (.dup, 1) := by decide +kernel
theorem dX5_layer_40 : decode cX5_layer 40 = .ok (.ldc_w 273, 3) := by decide +kernel
theorem dX5_layer_43 : decode cX5_layer 43 = .ok (.invokespecial 80, 3) := by decide +kernel
theorem dX5_layer_46 : decode cX5_layer 46 = .ok (.athrow, 1) := by decide +kernel
theorem dX5_layer_47 : decode cX5_layer 47 = .ok (.aload_n 3, 1) := by decide +kernel
theorem dX5_layer_48 : decode cX5_layer 48 = .ok (.aload_n 3, 1) := by decide +kernel
theorem dX5_layer_49 : decode cX5_layer 49 = .ok (.getfield 129, 3) := by decide +kernel
theorem dX5_layer_52 : decode cX5_layer 52 = .ok (.iload_n 2, 1) := by decide +kernel
theorem dX5_layer_53 : decode cX5_layer 53 = .ok (.invokestatic 275, 3) := by decide +kernel
theorem dX5_layer_56 : decode cX5_layer 56 = .ok (.putfield 129, 3) := by decide +kernel
theorem dX5_layer_59 : decode cX5_layer 59 = .ok (.aload_n 3, 1) := by decide +kernel
theorem dX5_layer_60 : decode cX5_layer 60 = .ok (.getfield 129, 3) := by decide +kernel
theorem dX5_layer_63 : decode cX5_layer 63 = .ok (.ireturn, 1) := by decide +kernel
set_option maxRecDepth 20000 in
theorem ggX5_fewest_X5_billetAt : GoodIn wsX5_fewest wsX5_billetAt := goodIn_ca (goodIn_r _ [8, 9, 10, 11, 12, 13, 14, 15, 16, 17, 18, 19, 20, 21, 22, 23, 24, 25, 26, 27, 28, 29, 30, 31, 32, 33, 34, 35, 59, 60, 61, 62, 63, 64, 65, 66, 88, 89, 90] (by decide +kernel) (by decide +kernel)) (goodIn_sub (fun _ h => List.mem_cons_of_mem _ (List.mem_append_left _ (List.mem_append_right _ h))) (by decide +kernel))
set_option maxRecDepth 20000 in
theorem gX5_fewest_X5_billetAt : GoodIn wsX5_fewest (wsV RX5 103 RX5 yX5_billetAt wsX5_billetAt) := goodIn_app (goodIn_of _ (by decide +kernel)) ggX5_fewest_X5_billetAt
set_option maxRecDepth 20000 in
theorem ggX5_fewest_X5_refuseNoPattern : GoodIn wsX5_fewest wsX5_refuseNoPattern := goodIn_ca (goodIn_r _ [38, 39, 40] (by decide +kernel) (by decide +kernel)) (goodIn_sub (fun _ h => List.mem_cons_of_mem _ (List.mem_append_right _ h)) (by decide +kernel))
set_option maxRecDepth 20000 in
theorem gX5_fewest_X5_refuseNoPattern : GoodIn wsX5_fewest (va_wsS RX5 278 yX5_refuseNoPattern wsX5_refuseNoPattern) := goodIn_app (goodIn_of _ (by decide +kernel)) ggX5_fewest_X5_refuseNoPattern
set_option maxRecDepth 20000 in
theorem ggX5_fewest_X2_exploreFrom : GoodIn wsX5_fewest wsX2_exploreFrom := goodIn_r _ [45, 46, 47, 48, 49, 50, 51, 52, 53, 54, 44, 55, 56, 57, 58, 85, 86, 87] (by decide +kernel) (by decide +kernel)
set_option maxRecDepth 20000 in
theorem gX5_fewest_X2_exploreFrom : GoodIn wsX5_fewest (wsV RX5 281 RX2 yX2_exploreFrom wsX2_exploreFrom) := goodIn_app (goodIn_of _ (by decide +kernel)) ggX5_fewest_X2_exploreFrom
theorem dX5_fewest_0 : decode cX5_fewest 0 = .ok (.aload_n 0, 1) := by decide +kernel
theorem dX5_fewest_1 : decode cX5_fewest 1 = .ok (.iload_n 1, 1) := by decide +kernel
theorem dX5_fewest_2 : decode cX5_fewest 2 = .ok (.invokevirtual 103, 3) := by decide +kernel
theorem dX5_fewest_5 : decode cX5_fewest 5 = .ok (.astore_n 3, 1) := by decide +kernel
theorem dX5_fewest_6 : decode cX5_fewest 6 = .ok (.iload_n 2, 1) := by decide +kernel
theorem dX5_fewest_7 : decode cX5_fewest 7 = .ok (.invokestatic 278, 3) := by decide +kernel
theorem dX5_fewest_10 : decode cX5_fewest 10 = .ok (.aload_n 0, 1) := by decide +kernel
theorem dX5_fewest_11 : decode cX5_fewest 11 = .ok (.getfield 35, 3) := by decide +kernel
theorem dX5_fewest_14 : decode cX5_fewest 14 = .ok (.aload_n 3, 1) := by decide +kernel
theorem dX5_fewest_15 : decode cX5_fewest 15 = .ok (.getfield 129, 3) := by decide +kernel
theorem dX5_fewest_18 : decode cX5_fewest 18 = .ok (.invokevirtual 281, 3) := by decide +kernel
theorem dX5_fewest_21 : decode cX5_fewest 21 = .ok (.aload_n 0, 1) := by decide +kernel
theorem dX5_fewest_22 : decode cX5_fewest 22 = .ok (.getfield 35, 3) := by decide +kernel
theorem dX5_fewest_25 : decode cX5_fewest 25 = .ok (.getfield 284, 3) := by decide +kernel
theorem dX5_fewest_28 : decode cX5_fewest 28 = .ok (.iload_n 2, 1) := by decide +kernel
theorem dX5_fewest_29 : decode cX5_fewest 29 = .ok (.iaload, 1) := by decide +kernel
theorem dX5_fewest_30 : decode cX5_fewest 30 = .ok (.ireturn, 1) := by decide +kernel
set_option maxRecDepth 20000 in
theorem ggX5_first_X5_billetAt : GoodIn wsX5_first wsX5_billetAt := goodIn_ca (goodIn_r _ [8, 9, 10, 11, 12, 13, 14, 15, 16, 17, 18, 19, 20, 21, 22, 23, 24, 25, 26, 27, 28, 29, 30, 31, 32, 33, 34, 35, 59, 60, 61, 62, 63, 64, 65, 66, 88, 89, 90] (by decide +kernel) (by decide +kernel)) (goodIn_sub (fun _ h => List.mem_cons_of_mem _ (List.mem_append_left _ (List.mem_append_right _ h))) (by decide +kernel))
set_option maxRecDepth 20000 in
theorem gX5_first_X5_billetAt : GoodIn wsX5_first (wsV RX5 103 RX5 yX5_billetAt wsX5_billetAt) := goodIn_app (goodIn_of _ (by decide +kernel)) ggX5_first_X5_billetAt
set_option maxRecDepth 20000 in
theorem ggX5_first_X5_refuseNoPattern : GoodIn wsX5_first wsX5_refuseNoPattern := goodIn_ca (goodIn_r _ [38, 39, 40] (by decide +kernel) (by decide +kernel)) (goodIn_sub (fun _ h => List.mem_cons_of_mem _ (List.mem_append_right _ h)) (by decide +kernel))
set_option maxRecDepth 20000 in
theorem gX5_first_X5_refuseNoPattern : GoodIn wsX5_first (va_wsS RX5 278 yX5_refuseNoPattern wsX5_refuseNoPattern) := goodIn_app (goodIn_of _ (by decide +kernel)) ggX5_first_X5_refuseNoPattern
set_option maxRecDepth 20000 in
theorem ggX5_first_X2_exploreFrom : GoodIn wsX5_first wsX2_exploreFrom := goodIn_r _ [45, 46, 47, 48, 49, 50, 51, 52, 53, 54, 44, 55, 56, 57, 58, 85, 86, 87] (by decide +kernel) (by decide +kernel)
set_option maxRecDepth 20000 in
theorem gX5_first_X2_exploreFrom : GoodIn wsX5_first (wsV RX5 281 RX2 yX2_exploreFrom wsX2_exploreFrom) := goodIn_app (goodIn_of _ (by decide +kernel)) ggX5_first_X2_exploreFrom
theorem dX5_first_0 : decode cX5_first 0 = .ok (.aload_n 0, 1) := by decide +kernel
theorem dX5_first_1 : decode cX5_first 1 = .ok (.iload_n 1, 1) := by decide +kernel
theorem dX5_first_2 : decode cX5_first 2 = .ok (.invokevirtual 103, 3) := by decide +kernel
theorem dX5_first_5 : decode cX5_first 5 = .ok (.astore_n 3, 1) := by decide +kernel
theorem dX5_first_6 : decode cX5_first 6 = .ok (.iload_n 2, 1) := by decide +kernel
theorem dX5_first_7 : decode cX5_first 7 = .ok (.invokestatic 278, 3) := by decide +kernel
theorem dX5_first_10 : decode cX5_first 10 = .ok (.aload_n 0, 1) := by decide +kernel
theorem dX5_first_11 : decode cX5_first 11 = .ok (.getfield 35, 3) := by decide +kernel
theorem dX5_first_14 : decode cX5_first 14 = .ok (.aload_n 3, 1) := by decide +kernel
theorem dX5_first_15 : decode cX5_first 15 = .ok (.getfield 129, 3) := by decide +kernel
theorem dX5_first_18 : decode cX5_first 18 = .ok (.invokevirtual 281, 3) := by decide +kernel
theorem dX5_first_21 : decode cX5_first 21 = .ok (.aload_n 0, 1) := by decide +kernel
theorem dX5_first_22 : decode cX5_first 22 = .ok (.getfield 35, 3) := by decide +kernel
theorem dX5_first_25 : decode cX5_first 25 = .ok (.getfield 287, 3) := by decide +kernel
theorem dX5_first_28 : decode cX5_first 28 = .ok (.iload_n 2, 1) := by decide +kernel
theorem dX5_first_29 : decode cX5_first 29 = .ok (.iaload, 1) := by decide +kernel
theorem dX5_first_30 : decode cX5_first 30 = .ok (.ireturn, 1) := by decide +kernel
set_option maxRecDepth 20000 in
theorem ggX5_job_X3_add : GoodIn wsX5_job wsX3_add := goodIn_r _ [11, 12, 13, 22, 23, 24] (by decide +kernel) (by decide +kernel)
set_option maxRecDepth 20000 in
theorem gX5_job_X3_add : GoodIn wsX5_job (wsV RX5 297 RX3 yX3_add wsX3_add) := goodIn_app (goodIn_of _ (by decide +kernel)) ggX5_job_X3_add
theorem dX5_job_0 : decode cX5_job 0 = .ok (.iload_n 1, 1) := by decide +kernel
theorem dX5_job_1 : decode cX5_job 1 = .ok (.sipush 200, 3) := by decide +kernel
theorem dX5_job_4 : decode cX5_job 4 = .ok (.if_icmp .lt 10, 3) := by decide +kernel
theorem dX5_job_7 : decode cX5_job 7 = .ok (.iload_n 1, 1) := by decide +kernel
theorem dX5_job_8 : decode cX5_job 8 = .ok (.sipush 1300, 3) := by decide +kernel
theorem dX5_job_11 : decode cX5_job 11 = .ok (.if_icmp .le 14, 3) := by decide +kernel
theorem dX5_job_14 : decode cX5_job 14 = .ok (.new 51, 3) := by decide +kernel
theorem dX5_job_17 : decode cX5_job 17 = .ok (.dup, 1) := by decide +kernel
theorem dX5_job_18 : decode cX5_job 18 = .ok (.ldc_w 290, 3) := by decide +kernel
theorem dX5_job_21 : decode cX5_job 21 = .ok (.invokespecial 55, 3) := by decide +kernel
theorem dX5_job_24 : decode cX5_job 24 = .ok (.athrow, 1) := by decide +kernel
theorem dX5_job_25 : decode cX5_job 25 = .ok (.aload_n 0, 1) := by decide +kernel
theorem dX5_job_26 : decode cX5_job 26 = .ok (.getfield 42, 3) := by decide +kernel
theorem dX5_job_29 : decode cX5_job 29 = .ok (.getfield 292, 3) := by decide +kernel
theorem dX5_job_32 : decode cX5_job 32 = .ok (.bipush 12, 2) := by decide +kernel
theorem dX5_job_34 : decode cX5_job 34 = .ok (.if_icmp .lt 14, 3) := by decide +kernel
theorem dX5_job_37 : decode cX5_job 37 = .ok (.new 76, 3) := by decide +kernel
theorem dX5_job_40 : decode cX5_job 40 = .ok (.dup, 1) := by decide +kernel
theorem dX5_job_41 : decode cX5_job 41 = .ok (.ldc_w 295, 3) := by decide +kernel
theorem dX5_job_44 : decode cX5_job 44 = .ok (.invokespecial 80, 3) := by decide +kernel
theorem dX5_job_47 : decode cX5_job 47 = .ok (.athrow, 1) := by decide +kernel
theorem dX5_job_48 : decode cX5_job 48 = .ok (.aload_n 0, 1) := by decide +kernel
theorem dX5_job_49 : decode cX5_job 49 = .ok (.getfield 42, 3) := by decide +kernel
theorem dX5_job_52 : decode cX5_job 52 = .ok (.iload_n 1, 1) := by decide +kernel
theorem dX5_job_53 : decode cX5_job 53 = .ok (.invokevirtual 297, 3) := by decide +kernel
theorem dX5_job_56 : decode cX5_job 56 = .ok (.aload_n 0, 1) := by decide +kernel
theorem dX5_job_57 : decode cX5_job 57 = .ok (.getfield 42, 3) := by decide +kernel
theorem dX5_job_60 : decode cX5_job 60 = .ok (.getfield 292, 3) := by decide +kernel
theorem dX5_job_63 : decode cX5_job 63 = .ok (.ireturn, 1) := by decide +kernel
set_option maxRecDepth 20000 in
theorem ggX5_planned_X3_warmthAt : GoodIn wsX5_planned wsX3_warmthAt := goodIn_r _ [8, 9, 10, 11, 12, 13, 7, 14, 15, 16, 17, 18, 19, 20, 21, 22, 23, 32, 33, 34] (by decide +kernel) (by decide +kernel)
set_option maxRecDepth 20000 in
theorem gX5_planned_X3_warmthAt : GoodIn wsX5_planned (wsV RX5 301 RX3 yX3_warmthAt wsX3_warmthAt) := goodIn_app (goodIn_of _ (by decide +kernel)) ggX5_planned_X3_warmthAt
theorem dX5_planned_0 : decode cX5_planned 0 = .ok (.iload_n 1, 1) := by decide +kernel
theorem dX5_planned_1 : decode cX5_planned 1 = .ok (.ifCond .ge 14, 3) := by decide +kernel
theorem dX5_planned_4 : decode cX5_planned 4 = .ok (.new 51, 3) := by decide +kernel
theorem dX5_planned_7 : decode cX5_planned 7 = .ok (.dup, 1) := by decide +kernel
theorem dX5_planned_8 : decode cX5_planned 8 = .ok (.ldc_w 299, 3) := by decide +kernel
theorem dX5_planned_11 : decode cX5_planned 11 = .ok (.invokespecial 55, 3) := by decide +kernel
theorem dX5_planned_14 : decode cX5_planned 14 = .ok (.athrow, 1) := by decide +kernel
theorem dX5_planned_15 : decode cX5_planned 15 = .ok (.aload_n 0, 1) := by decide +kernel
theorem dX5_planned_16 : decode cX5_planned 16 = .ok (.getfield 42, 3) := by decide +kernel
theorem dX5_planned_19 : decode cX5_planned 19 = .ok (.iload_n 1, 1) := by decide +kernel
theorem dX5_planned_20 : decode cX5_planned 20 = .ok (.invokevirtual 301, 3) := by decide +kernel
theorem dX5_planned_23 : decode cX5_planned 23 = .ok (.ireturn, 1) := by decide +kernel
set_option maxRecDepth 20000 in
theorem ggX5_run_X3_carryOut : GoodIn wsX5_run wsX3_carryOut := goodIn_r _ [6, 7, 8, 9, 10, 11, 12, 13, 14, 15, 5, 16, 17, 18, 19, 20, 21, 22, 23, 24, 25, 34, 35, 36] (by decide +kernel) (by decide +kernel)
set_option maxRecDepth 20000 in
theorem gX5_run_X3_carryOut : GoodIn wsX5_run (wsV RX5 304 RX3 yX3_carryOut wsX3_carryOut) := goodIn_app (goodIn_of _ (by decide +kernel)) ggX5_run_X3_carryOut
theorem dX5_run_0 : decode cX5_run 0 = .ok (.aload_n 0, 1) := by decide +kernel
theorem dX5_run_1 : decode cX5_run 1 = .ok (.getfield 42, 3) := by decide +kernel
theorem dX5_run_4 : decode cX5_run 4 = .ok (.invokevirtual 304, 3) := by decide +kernel
theorem dX5_run_7 : decode cX5_run 7 = .ok (.ireturn, 1) := by decide +kernel
theorem dX5_steelAt_0 : decode cX5_steelAt 0 = .ok (.iload_n 1, 1) := by decide +kernel
theorem dX5_steelAt_1 : decode cX5_steelAt 1 = .ok (.ifCond .lt 8, 3) := by decide +kernel
theorem dX5_steelAt_4 : decode cX5_steelAt 4 = .ok (.iload_n 1, 1) := by decide +kernel
theorem dX5_steelAt_5 : decode cX5_steelAt 5 = .ok (.iconst 4, 1) := by decide +kernel
theorem dX5_steelAt_6 : decode cX5_steelAt 6 = .ok (.if_icmp .lt 14, 3) := by decide +kernel
theorem dX5_steelAt_9 : decode cX5_steelAt 9 = .ok (.new 85, 3) := by decide +kernel
theorem dX5_steelAt_12 : decode cX5_steelAt 12 = .ok (.dup, 1) := by decide +kernel
theorem dX5_steelAt_13 : decode cX5_steelAt 13 = .ok (.ldc_w 307, 3) := by decide +kernel
theorem dX5_steelAt_16 : decode cX5_steelAt 16 = .ok (.invokespecial 89, 3) := by decide +kernel
theorem dX5_steelAt_19 : decode cX5_steelAt 19 = .ok (.athrow, 1) := by decide +kernel
theorem dX5_steelAt_20 : decode cX5_steelAt 20 = .ok (.aload_n 0, 1) := by decide +kernel
theorem dX5_steelAt_21 : decode cX5_steelAt 21 = .ok (.getfield 11, 3) := by decide +kernel
theorem dX5_steelAt_24 : decode cX5_steelAt 24 = .ok (.iload_n 1, 1) := by decide +kernel
theorem dX5_steelAt_25 : decode cX5_steelAt 25 = .ok (.aaload, 1) := by decide +kernel
theorem dX5_steelAt_26 : decode cX5_steelAt 26 = .ok (.areturn, 1) := by decide +kernel
set_option maxRecDepth 20000 in
theorem ggX5_billetAt_Jx4a65c_size_8abf5 : GoodIn wsX5_billetAt wsJx4a65c_size_8abf5 := goodIn_r _ [9, 10, 36, 37, 38] (by decide +kernel) (by decide +kernel)
set_option maxRecDepth 20000 in
theorem gX5_billetAt_Jx4a65c_size_8abf5 : GoodIn wsX5_billetAt (wsV RX5 72 RJx4a65c yJx4a65c_size_8abf5 wsJx4a65c_size_8abf5) := goodIn_app (goodIn_of _ (by decide +kernel)) ggX5_billetAt_Jx4a65c_size_8abf5
set_option maxRecDepth 20000 in
theorem ggX5_billetAt_Jx4a65c_get_915e3 : GoodIn wsX5_billetAt wsJx4a65c_get_915e3 := goodIn_r _ [14, 10, 15, 16, 17, 18, 19, 20, 21, 22, 23, 24, 25, 8, 26, 27, 36, 37, 38] (by decide +kernel) (by decide +kernel)
set_option maxRecDepth 20000 in
theorem gX5_billetAt_Jx4a65c_get_915e3 : GoodIn wsX5_billetAt (wsV RX5 96 RJx4a65c yJx4a65c_get_915e3 wsJx4a65c_get_915e3) := goodIn_app (goodIn_of _ (by decide +kernel)) ggX5_billetAt_Jx4a65c_get_915e3
theorem dX5_billetAt_0 : decode cX5_billetAt 0 = .ok (.iload_n 1, 1) := by decide +kernel
theorem dX5_billetAt_1 : decode cX5_billetAt 1 = .ok (.ifCond .lt 14, 3) := by decide +kernel
theorem dX5_billetAt_4 : decode cX5_billetAt 4 = .ok (.iload_n 1, 1) := by decide +kernel
theorem dX5_billetAt_5 : decode cX5_billetAt 5 = .ok (.aload_n 0, 1) := by decide +kernel
theorem dX5_billetAt_6 : decode cX5_billetAt 6 = .ok (.getfield 22, 3) := by decide +kernel
theorem dX5_billetAt_9 : decode cX5_billetAt 9 = .ok (.invokevirtual 72, 3) := by decide +kernel
theorem dX5_billetAt_12 : decode cX5_billetAt 12 = .ok (.if_icmp .lt 14, 3) := by decide +kernel
theorem dX5_billetAt_15 : decode cX5_billetAt 15 = .ok (.new 85, 3) := by decide +kernel
theorem dX5_billetAt_18 : decode cX5_billetAt 18 = .ok (.dup, 1) := by decide +kernel
theorem dX5_billetAt_19 : decode cX5_billetAt 19 = .ok (.ldc_w 309, 3) := by decide +kernel
theorem dX5_billetAt_22 : decode cX5_billetAt 22 = .ok (.invokespecial 89, 3) := by decide +kernel
theorem dX5_billetAt_25 : decode cX5_billetAt 25 = .ok (.athrow, 1) := by decide +kernel
theorem dX5_billetAt_26 : decode cX5_billetAt 26 = .ok (.aload_n 0, 1) := by decide +kernel
theorem dX5_billetAt_27 : decode cX5_billetAt 27 = .ok (.getfield 22, 3) := by decide +kernel
theorem dX5_billetAt_30 : decode cX5_billetAt 30 = .ok (.iload_n 1, 1) := by decide +kernel
theorem dX5_billetAt_31 : decode cX5_billetAt 31 = .ok (.invokevirtual 96, 3) := by decide +kernel
theorem dX5_billetAt_34 : decode cX5_billetAt 34 = .ok (.checkcast 94, 3) := by decide +kernel
theorem dX5_billetAt_37 : decode cX5_billetAt 37 = .ok (.areturn, 1) := by decide +kernel
set_option maxRecDepth 20000 in
theorem ggX5_dieAt_Jx4a65c_size_8abf5 : GoodIn wsX5_dieAt wsJx4a65c_size_8abf5 := goodIn_r _ [9, 10, 36, 37, 38] (by decide +kernel) (by decide +kernel)
set_option maxRecDepth 20000 in
theorem gX5_dieAt_Jx4a65c_size_8abf5 : GoodIn wsX5_dieAt (wsV RX5 72 RJx4a65c yJx4a65c_size_8abf5 wsJx4a65c_size_8abf5) := goodIn_app (goodIn_of _ (by decide +kernel)) ggX5_dieAt_Jx4a65c_size_8abf5
set_option maxRecDepth 20000 in
theorem ggX5_dieAt_Jx4a65c_get_915e3 : GoodIn wsX5_dieAt wsJx4a65c_get_915e3 := goodIn_r _ [14, 10, 15, 16, 17, 18, 19, 20, 21, 22, 23, 24, 25, 8, 26, 27, 36, 37, 38] (by decide +kernel) (by decide +kernel)
set_option maxRecDepth 20000 in
theorem gX5_dieAt_Jx4a65c_get_915e3 : GoodIn wsX5_dieAt (wsV RX5 96 RJx4a65c yJx4a65c_get_915e3 wsJx4a65c_get_915e3) := goodIn_app (goodIn_of _ (by decide +kernel)) ggX5_dieAt_Jx4a65c_get_915e3
theorem dX5_dieAt_0 : decode cX5_dieAt 0 = .ok (.iload_n 1, 1) := by decide +kernel
theorem dX5_dieAt_1 : decode cX5_dieAt 1 = .ok (.ifCond .lt 14, 3) := by decide +kernel
theorem dX5_dieAt_4 : decode cX5_dieAt 4 = .ok (.iload_n 1, 1) := by decide +kernel
theorem dX5_dieAt_5 : decode cX5_dieAt 5 = .ok (.aload_n 0, 1) := by decide +kernel
theorem dX5_dieAt_6 : decode cX5_dieAt 6 = .ok (.getfield 25, 3) := by decide +kernel
theorem dX5_dieAt_9 : decode cX5_dieAt 9 = .ok (.invokevirtual 72, 3) := by decide +kernel
theorem dX5_dieAt_12 : decode cX5_dieAt 12 = .ok (.if_icmp .lt 14, 3) := by decide +kernel
theorem dX5_dieAt_15 : decode cX5_dieAt 15 = .ok (.new 85, 3) := by decide +kernel
theorem dX5_dieAt_18 : decode cX5_dieAt 18 = .ok (.dup, 1) := by decide +kernel
theorem dX5_dieAt_19 : decode cX5_dieAt 19 = .ok (.ldc_w 311, 3) := by decide +kernel
theorem dX5_dieAt_22 : decode cX5_dieAt 22 = .ok (.invokespecial 89, 3) := by decide +kernel
theorem dX5_dieAt_25 : decode cX5_dieAt 25 = .ok (.athrow, 1) := by decide +kernel
theorem dX5_dieAt_26 : decode cX5_dieAt 26 = .ok (.aload_n 0, 1) := by decide +kernel
theorem dX5_dieAt_27 : decode cX5_dieAt 27 = .ok (.getfield 25, 3) := by decide +kernel
theorem dX5_dieAt_30 : decode cX5_dieAt 30 = .ok (.iload_n 1, 1) := by decide +kernel
theorem dX5_dieAt_31 : decode cX5_dieAt 31 = .ok (.invokevirtual 96, 3) := by decide +kernel
theorem dX5_dieAt_34 : decode cX5_dieAt 34 = .ok (.checkcast 198, 3) := by decide +kernel
theorem dX5_dieAt_37 : decode cX5_dieAt 37 = .ok (.areturn, 1) := by decide +kernel
theorem dX5_refuseNoSection_0 : decode cX5_refuseNoSection 0 = .ok (.iload_n 0, 1) := by decide +kernel
theorem dX5_refuseNoSection_1 : decode cX5_refuseNoSection 1 = .ok (.ifCond .lt 9, 3) := by decide +kernel
theorem dX5_refuseNoSection_4 : decode cX5_refuseNoSection 4 = .ok (.iload_n 0, 1) := by decide +kernel
theorem dX5_refuseNoSection_5 : decode cX5_refuseNoSection 5 = .ok (.bipush 8, 2) := by decide +kernel
theorem dX5_refuseNoSection_7 : decode cX5_refuseNoSection 7 = .ok (.if_icmp .lt 14, 3) := by decide +kernel
theorem dX5_refuseNoSection_10 : decode cX5_refuseNoSection 10 = .ok (.new 85, 3) := by decide +kernel
theorem dX5_refuseNoSection_13 : decode cX5_refuseNoSection 13 = .ok (.dup, 1) := by decide +kernel
theorem dX5_refuseNoSection_14 : decode cX5_refuseNoSection 14 = .ok (.ldc_w 313, 3) := by decide +kernel
theorem dX5_refuseNoSection_17 : decode cX5_refuseNoSection 17 = .ok (.invokespecial 89, 3) := by decide +kernel
theorem dX5_refuseNoSection_20 : decode cX5_refuseNoSection 20 = .ok (.athrow, 1) := by decide +kernel
theorem dX5_refuseNoSection_21 : decode cX5_refuseNoSection 21 = .ok (.return_, 1) := by decide +kernel
theorem dX5_refuseMinutes_0 : decode cX5_refuseMinutes 0 = .ok (.iload_n 0, 1) := by decide +kernel
theorem dX5_refuseMinutes_1 : decode cX5_refuseMinutes 1 = .ok (.iconst 1, 1) := by decide +kernel
theorem dX5_refuseMinutes_2 : decode cX5_refuseMinutes 2 = .ok (.if_icmp .lt 10, 3) := by decide +kernel
theorem dX5_refuseMinutes_5 : decode cX5_refuseMinutes 5 = .ok (.iload_n 0, 1) := by decide +kernel
theorem dX5_refuseMinutes_6 : decode cX5_refuseMinutes 6 = .ok (.sipush 200, 3) := by decide +kernel
theorem dX5_refuseMinutes_9 : decode cX5_refuseMinutes 9 = .ok (.if_icmp .le 14, 3) := by decide +kernel
theorem dX5_refuseMinutes_12 : decode cX5_refuseMinutes 12 = .ok (.new 51, 3) := by decide +kernel
theorem dX5_refuseMinutes_15 : decode cX5_refuseMinutes 15 = .ok (.dup, 1) := by decide +kernel
theorem dX5_refuseMinutes_16 : decode cX5_refuseMinutes 16 = .ok (.ldc_w 315, 3) := by decide +kernel
theorem dX5_refuseMinutes_19 : decode cX5_refuseMinutes 19 = .ok (.invokespecial 55, 3) := by decide +kernel
theorem dX5_refuseMinutes_22 : decode cX5_refuseMinutes 22 = .ok (.athrow, 1) := by decide +kernel
theorem dX5_refuseMinutes_23 : decode cX5_refuseMinutes 23 = .ok (.return_, 1) := by decide +kernel
theorem dX5_refuseNoPattern_0 : decode cX5_refuseNoPattern 0 = .ok (.iload_n 0, 1) := by decide +kernel
theorem dX5_refuseNoPattern_1 : decode cX5_refuseNoPattern 1 = .ok (.ifCond .lt 10, 3) := by decide +kernel
theorem dX5_refuseNoPattern_4 : decode cX5_refuseNoPattern 4 = .ok (.iload_n 0, 1) := by decide +kernel
theorem dX5_refuseNoPattern_5 : decode cX5_refuseNoPattern 5 = .ok (.sipush 256, 3) := by decide +kernel
theorem dX5_refuseNoPattern_8 : decode cX5_refuseNoPattern 8 = .ok (.if_icmp .lt 14, 3) := by decide +kernel
theorem dX5_refuseNoPattern_11 : decode cX5_refuseNoPattern 11 = .ok (.new 51, 3) := by decide +kernel
theorem dX5_refuseNoPattern_14 : decode cX5_refuseNoPattern 14 = .ok (.dup, 1) := by decide +kernel
theorem dX5_refuseNoPattern_15 : decode cX5_refuseNoPattern 15 = .ok (.ldc_w 317, 3) := by decide +kernel
theorem dX5_refuseNoPattern_18 : decode cX5_refuseNoPattern 18 = .ok (.invokespecial 55, 3) := by decide +kernel
theorem dX5_refuseNoPattern_21 : decode cX5_refuseNoPattern 21 = .ok (.athrow, 1) := by decide +kernel
theorem dX5_refuseNoPattern_22 : decode cX5_refuseNoPattern 22 = .ok (.return_, 1) := by decide +kernel
theorem dX5_neighbourOf_0 : decode cX5_neighbourOf 0 = .ok (.iload_n 0, 1) := by decide +kernel
theorem dX5_neighbourOf_1 : decode cX5_neighbourOf 1 = .ok (.bipush 7, 2) := by decide +kernel
theorem dX5_neighbourOf_3 : decode cX5_neighbourOf 3 = .ok (.if_icmp .ne 9, 3) := by decide +kernel
theorem dX5_neighbourOf_6 : decode cX5_neighbourOf 6 = .ok (.iload_n 0, 1) := by decide +kernel
theorem dX5_neighbourOf_7 : decode cX5_neighbourOf 7 = .ok (.iconst 1, 1) := by decide +kernel
theorem dX5_neighbourOf_8 : decode cX5_neighbourOf 8 = .ok (.isub, 1) := by decide +kernel
theorem dX5_neighbourOf_9 : decode cX5_neighbourOf 9 = .ok (.goto 6, 3) := by decide +kernel
theorem dX5_neighbourOf_12 : decode cX5_neighbourOf 12 = .ok (.iload_n 0, 1) := by decide +kernel
theorem dX5_neighbourOf_13 : decode cX5_neighbourOf 13 = .ok (.iconst 1, 1) := by decide +kernel
theorem dX5_neighbourOf_14 : decode cX5_neighbourOf 14 = .ok (.iadd, 1) := by decide +kernel
theorem dX5_neighbourOf_15 : decode cX5_neighbourOf 15 = .ok (.ireturn, 1) := by decide +kernel
theorem dX5_isMoreThanThrice_0 : decode cX5_isMoreThanThrice 0 = .ok (.iload_n 0, 1) := by decide +kernel
theorem dX5_isMoreThanThrice_1 : decode cX5_isMoreThanThrice 1 = .ok (.iconst 3, 1) := by decide +kernel
theorem dX5_isMoreThanThrice_2 : decode cX5_isMoreThanThrice 2 = .ok (.iload_n 1, 1) := by decide +kernel
theorem dX5_isMoreThanThrice_3 : decode cX5_isMoreThanThrice 3 = .ok (.imul, 1) := by decide +kernel
theorem dX5_isMoreThanThrice_4 : decode cX5_isMoreThanThrice 4 = .ok (.if_icmp .le 7, 3) := by decide +kernel
theorem dX5_isMoreThanThrice_7 : decode cX5_isMoreThanThrice 7 = .ok (.iconst 1, 1) := by decide +kernel
theorem dX5_isMoreThanThrice_8 : decode cX5_isMoreThanThrice 8 = .ok (.goto 4, 3) := by decide +kernel
theorem dX5_isMoreThanThrice_11 : decode cX5_isMoreThanThrice 11 = .ok (.iconst 0, 1) := by decide +kernel
theorem dX5_isMoreThanThrice_12 : decode cX5_isMoreThanThrice 12 = .ok (.ireturn, 1) := by decide +kernel
theorem dX5_isInSet_0 : decode cX5_isInSet 0 = .ok (.iload_n 0, 1) := by decide +kernel
theorem dX5_isInSet_1 : decode cX5_isInSet 1 = .ok (.iload_n 1, 1) := by decide +kernel
theorem dX5_isInSet_2 : decode cX5_isInSet 2 = .ok (.iushr, 1) := by decide +kernel
theorem dX5_isInSet_3 : decode cX5_isInSet 3 = .ok (.iconst 1, 1) := by decide +kernel
theorem dX5_isInSet_4 : decode cX5_isInSet 4 = .ok (.iand, 1) := by decide +kernel
theorem dX5_isInSet_5 : decode cX5_isInSet 5 = .ok (.ifCond .eq 7, 3) := by decide +kernel
theorem dX5_isInSet_8 : decode cX5_isInSet 8 = .ok (.iconst 1, 1) := by decide +kernel
theorem dX5_isInSet_9 : decode cX5_isInSet 9 = .ok (.goto 4, 3) := by decide +kernel
theorem dX5_isInSet_12 : decode cX5_isInSet 12 = .ok (.iconst 0, 1) := by decide +kernel
theorem dX5_isInSet_13 : decode cX5_isInSet 13 = .ok (.ireturn, 1) := by decide +kernel
theorem dX5_isLoad_0 : decode cX5_isLoad 0 = .ok (.iload_n 1, 1) := by decide +kernel
theorem dX5_isLoad_1 : decode cX5_isLoad 1 = .ok (.ifCond .lt 16, 3) := by decide +kernel
theorem dX5_isLoad_4 : decode cX5_isLoad 4 = .ok (.iload_n 1, 1) := by decide +kernel
theorem dX5_isLoad_5 : decode cX5_isLoad 5 = .ok (.aload_n 0, 1) := by decide +kernel
theorem dX5_isLoad_6 : decode cX5_isLoad 6 = .ok (.getfield 28, 3) := by decide +kernel
theorem dX5_isLoad_9 : decode cX5_isLoad 9 = .ok (.arraylength, 1) := by decide +kernel
theorem dX5_isLoad_10 : decode cX5_isLoad 10 = .ok (.if_icmp .ge 7, 3) := by decide +kernel
theorem dX5_isLoad_13 : decode cX5_isLoad 13 = .ok (.iconst 1, 1) := by decide +kernel
theorem dX5_isLoad_14 : decode cX5_isLoad 14 = .ok (.goto 4, 3) := by decide +kernel
theorem dX5_isLoad_17 : decode cX5_isLoad 17 = .ok (.iconst 0, 1) := by decide +kernel
theorem dX5_isLoad_18 : decode cX5_isLoad 18 = .ok (.ireturn, 1) := by decide +kernel
set_option maxRecDepth 20000 in
theorem ggX5_canBeQuenched_Jx4a65c_size_8abf5 : GoodIn wsX5_canBeQuenched wsJx4a65c_size_8abf5 := goodIn_r _ [9, 10, 58, 59, 60] (by decide +kernel) (by decide +kernel)
set_option maxRecDepth 20000 in
theorem gX5_canBeQuenched_Jx4a65c_size_8abf5 : GoodIn wsX5_canBeQuenched (wsV RX5 72 RJx4a65c yJx4a65c_size_8abf5 wsJx4a65c_size_8abf5) := goodIn_app (goodIn_of _ (by decide +kernel)) ggX5_canBeQuenched_Jx4a65c_size_8abf5
set_option maxRecDepth 20000 in
theorem ggX5_canBeQuenched_Jx4a65c_get_915e3 : GoodIn wsX5_canBeQuenched wsJx4a65c_get_915e3 := goodIn_r _ [14, 10, 15, 16, 17, 18, 19, 20, 21, 22, 23, 24, 25, 8, 26, 27, 58, 59, 60] (by decide +kernel) (by decide +kernel)
set_option maxRecDepth 20000 in
theorem gX5_canBeQuenched_Jx4a65c_get_915e3 : GoodIn wsX5_canBeQuenched (wsV RX5 96 RJx4a65c yJx4a65c_get_915e3 wsJx4a65c_get_915e3) := goodIn_app (goodIn_of _ (by decide +kernel)) ggX5_canBeQuenched_Jx4a65c_get_915e3
set_option maxRecDepth 20000 in
theorem ggX5_canBeQuenched_X5_isInSet : GoodIn wsX5_canBeQuenched wsX5_isInSet := goodIn_r _ [31] (by decide +kernel) (by decide +kernel)
set_option maxRecDepth 20000 in
theorem gX5_canBeQuenched_X5_isInSet : GoodIn wsX5_canBeQuenched (va_wsS RX5 236 yX5_isInSet wsX5_isInSet) := goodIn_app (goodIn_of _ (by decide +kernel)) ggX5_canBeQuenched_X5_isInSet
theorem dX5_canBeQuenched_0 : decode cX5_canBeQuenched 0 = .ok (.iconst 0, 1) := by decide +kernel
theorem dX5_canBeQuenched_1 : decode cX5_canBeQuenched 1 = .ok (.istore_n 2, 1) := by decide +kernel
theorem dX5_canBeQuenched_2 : decode cX5_canBeQuenched 2 = .ok (.iload_n 2, 1) := by decide +kernel
theorem dX5_canBeQuenched_3 : decode cX5_canBeQuenched 3 = .ok (.aload_n 0, 1) := by decide +kernel
theorem dX5_canBeQuenched_4 : decode cX5_canBeQuenched 4 = .ok (.getfield 22, 3) := by decide +kernel
theorem dX5_canBeQuenched_7 : decode cX5_canBeQuenched 7 = .ok (.invokevirtual 72, 3) := by decide +kernel
theorem dX5_canBeQuenched_10 : decode cX5_canBeQuenched 10 = .ok (.if_icmp .ge 48, 3) := by decide +kernel
theorem dX5_canBeQuenched_13 : decode cX5_canBeQuenched 13 = .ok (.aload_n 0, 1) := by decide +kernel
theorem dX5_canBeQuenched_14 : decode cX5_canBeQuenched 14 = .ok (.getfield 22, 3) := by decide +kernel
theorem dX5_canBeQuenched_17 : decode cX5_canBeQuenched 17 = .ok (.iload_n 2, 1) := by decide +kernel
theorem dX5_canBeQuenched_18 : decode cX5_canBeQuenched 18 = .ok (.invokevirtual 96, 3) := by decide +kernel
theorem dX5_canBeQuenched_21 : decode cX5_canBeQuenched 21 = .ok (.checkcast 94, 3) := by decide +kernel
theorem dX5_canBeQuenched_24 : decode cX5_canBeQuenched 24 = .ok (.astore_n 3, 1) := by decide +kernel
theorem dX5_canBeQuenched_25 : decode cX5_canBeQuenched 25 = .ok (.iload_n 1, 1) := by decide +kernel
theorem dX5_canBeQuenched_26 : decode cX5_canBeQuenched 26 = .ok (.iload_n 2, 1) := by decide +kernel
theorem dX5_canBeQuenched_27 : decode cX5_canBeQuenched 27 = .ok (.invokestatic 236, 3) := by decide +kernel
theorem dX5_canBeQuenched_30 : decode cX5_canBeQuenched 30 = .ok (.ifCond .eq 22, 3) := by decide +kernel
theorem dX5_canBeQuenched_33 : decode cX5_canBeQuenched 33 = .ok (.aload_n 3, 1) := by decide +kernel
theorem dX5_canBeQuenched_34 : decode cX5_canBeQuenched 34 = .ok (.getfield 110, 3) := by decide +kernel
theorem dX5_canBeQuenched_37 : decode cX5_canBeQuenched 37 = .ok (.sipush 800, 3) := by decide +kernel
theorem dX5_canBeQuenched_40 : decode cX5_canBeQuenched 40 = .ok (.if_icmp .lt 10, 3) := by decide +kernel
theorem dX5_canBeQuenched_43 : decode cX5_canBeQuenched 43 = .ok (.aload_n 3, 1) := by decide +kernel
theorem dX5_canBeQuenched_44 : decode cX5_canBeQuenched 44 = .ok (.getfield 125, 3) := by decide +kernel
theorem dX5_canBeQuenched_47 : decode cX5_canBeQuenched 47 = .ok (.ifCond .eq 5, 3) := by decide +kernel
theorem dX5_canBeQuenched_50 : decode cX5_canBeQuenched 50 = .ok (.iconst 0, 1) := by decide +kernel
theorem dX5_canBeQuenched_51 : decode cX5_canBeQuenched 51 = .ok (.ireturn, 1) := by decide +kernel
theorem dX5_canBeQuenched_52 : decode cX5_canBeQuenched 52 = .ok (.iinc 2 1, 3) := by decide +kernel
theorem dX5_canBeQuenched_55 : decode cX5_canBeQuenched 55 = .ok (.goto (-53), 3) := by decide +kernel
theorem dX5_canBeQuenched_58 : decode cX5_canBeQuenched 58 = .ok (.iconst 1, 1) := by decide +kernel
theorem dX5_canBeQuenched_59 : decode cX5_canBeQuenched 59 = .ok (.ireturn, 1) := by decide +kernel
theorem dJ9_abs_0f7a4_0 : decode cJ9_abs_0f7a4 0 = .ok (.iload_n 0, 1) := by decide +kernel
theorem dJ9_abs_0f7a4_1 : decode cJ9_abs_0f7a4 1 = .ok (.ifCond .ge 8, 3) := by decide +kernel
theorem dJ9_abs_0f7a4_4 : decode cJ9_abs_0f7a4 4 = .ok (.iload_n 0, 1) := by decide +kernel
theorem dJ9_abs_0f7a4_5 : decode cJ9_abs_0f7a4 5 = .ok (.ineg, 1) := by decide +kernel
theorem dJ9_abs_0f7a4_6 : decode cJ9_abs_0f7a4 6 = .ok (.goto 4, 3) := by decide +kernel
theorem dJ9_abs_0f7a4_9 : decode cJ9_abs_0f7a4 9 = .ok (.iload_n 0, 1) := by decide +kernel
theorem dJ9_abs_0f7a4_10 : decode cJ9_abs_0f7a4 10 = .ok (.ireturn, 1) := by decide +kernel
theorem dJ9_max_7cf53_0 : decode cJ9_max_7cf53 0 = .ok (.iload_n 0, 1) := by decide +kernel
theorem dJ9_max_7cf53_1 : decode cJ9_max_7cf53 1 = .ok (.iload_n 1, 1) := by decide +kernel
theorem dJ9_max_7cf53_2 : decode cJ9_max_7cf53 2 = .ok (.if_icmp .lt 7, 3) := by decide +kernel
theorem dJ9_max_7cf53_5 : decode cJ9_max_7cf53 5 = .ok (.iload_n 0, 1) := by decide +kernel
theorem dJ9_max_7cf53_6 : decode cJ9_max_7cf53 6 = .ok (.goto 4, 3) := by decide +kernel
theorem dJ9_max_7cf53_9 : decode cJ9_max_7cf53 9 = .ok (.iload_n 1, 1) := by decide +kernel
theorem dJ9_max_7cf53_10 : decode cJ9_max_7cf53 10 = .ok (.ireturn, 1) := by decide +kernel
theorem dJ9_min_7cf53_0 : decode cJ9_min_7cf53 0 = .ok (.iload_n 0, 1) := by decide +kernel
theorem dJ9_min_7cf53_1 : decode cJ9_min_7cf53 1 = .ok (.iload_n 1, 1) := by decide +kernel
theorem dJ9_min_7cf53_2 : decode cJ9_min_7cf53 2 = .ok (.if_icmp .gt 7, 3) := by decide +kernel
theorem dJ9_min_7cf53_5 : decode cJ9_min_7cf53 5 = .ok (.iload_n 0, 1) := by decide +kernel
theorem dJ9_min_7cf53_6 : decode cJ9_min_7cf53 6 = .ok (.goto 4, 3) := by decide +kernel
theorem dJ9_min_7cf53_9 : decode cJ9_min_7cf53 9 = .ok (.iload_n 1, 1) := by decide +kernel
theorem dJ9_min_7cf53_10 : decode cJ9_min_7cf53 10 = .ok (.ireturn, 1) := by decide +kernel
theorem dJxa1e45_init_da8c8_0 : decode cJxa1e45_init_da8c8 0 = .ok (.aload_n 0, 1) := by decide +kernel
theorem dJxa1e45_init_da8c8_1 : decode cJxa1e45_init_da8c8 1 = .ok (.invokespecial 1, 3) := by decide +kernel
theorem dJxa1e45_init_da8c8_4 : decode cJxa1e45_init_da8c8 4 = .ok (.return_, 1) := by decide +kernel
set_option maxRecDepth 20000 in
theorem ggJxc12de_init_da8c8_Jxa1e45_init_da8c8 : GoodIn wsJxc12de_init_da8c8 wsJxa1e45_init_da8c8 := goodIn_r _ [5, 6, 7, 8] (by decide +kernel) (by decide +kernel)
set_option maxRecDepth 20000 in
theorem gJxc12de_init_da8c8_Jxa1e45_init_da8c8 : GoodIn wsJxc12de_init_da8c8 (wsJxa1e45_init_da8c8) := ggJxc12de_init_da8c8_Jxa1e45_init_da8c8
theorem dJxc12de_init_da8c8_0 : decode cJxc12de_init_da8c8 0 = .ok (.aload_n 0, 1) := by decide +kernel
theorem dJxc12de_init_da8c8_1 : decode cJxc12de_init_da8c8 1 = .ok (.invokespecial 1, 3) := by decide +kernel
theorem dJxc12de_init_da8c8_4 : decode cJxc12de_init_da8c8 4 = .ok (.aload_n 0, 1) := by decide +kernel
theorem dJxc12de_init_da8c8_5 : decode cJxc12de_init_da8c8 5 = .ok (.iconst 0, 1) := by decide +kernel
theorem dJxc12de_init_da8c8_6 : decode cJxc12de_init_da8c8 6 = .ok (.putfield 7, 3) := by decide +kernel
theorem dJxc12de_init_da8c8_9 : decode cJxc12de_init_da8c8 9 = .ok (.return_, 1) := by decide +kernel
set_option maxRecDepth 20000 in
theorem ggJx4a65c_init_da8c8_Jxc12de_init_da8c8 : GoodIn wsJx4a65c_init_da8c8 wsJxc12de_init_da8c8 := goodIn_r _ [6, 7, 8, 9, 10, 11, 12, 13, 14, 15, 16, 17] (by decide +kernel) (by decide +kernel)
set_option maxRecDepth 20000 in
theorem gJx4a65c_init_da8c8_Jxc12de_init_da8c8 : GoodIn wsJx4a65c_init_da8c8 (wsJxc12de_init_da8c8) := ggJx4a65c_init_da8c8_Jxc12de_init_da8c8
theorem dJx4a65c_init_da8c8_0 : decode cJx4a65c_init_da8c8 0 = .ok (.aload_n 0, 1) := by decide +kernel
theorem dJx4a65c_init_da8c8_1 : decode cJx4a65c_init_da8c8 1 = .ok (.invokespecial 1, 3) := by decide +kernel
theorem dJx4a65c_init_da8c8_4 : decode cJx4a65c_init_da8c8 4 = .ok (.aload_n 0, 1) := by decide +kernel
theorem dJx4a65c_init_da8c8_5 : decode cJx4a65c_init_da8c8 5 = .ok (.getstatic 39, 3) := by decide +kernel
theorem dJx4a65c_init_da8c8_8 : decode cJx4a65c_init_da8c8 8 = .ok (.putfield 9, 3) := by decide +kernel
theorem dJx4a65c_init_da8c8_11 : decode cJx4a65c_init_da8c8 11 = .ok (.return_, 1) := by decide +kernel
set_option maxRecDepth 20000 in
theorem ggJx4a65c_grow_92f84_J8_newLength_cabcc : GoodIn wsJx4a65c_grow_92f84 wsJ8_newLength_cabcc := goodIn_r _ [11, 12, 4, 5, 6, 13, 14, 15, 10, 16] (by decide +kernel) (by decide +kernel)
set_option maxRecDepth 20000 in
theorem gJx4a65c_grow_92f84_J8_newLength_cabcc : GoodIn wsJx4a65c_grow_92f84 (va_wsS RJx4a65c 73 yJ8_newLength_cabcc wsJ8_newLength_cabcc) := goodIn_app (goodIn_of _ (by decide +kernel)) ggJx4a65c_grow_92f84_J8_newLength_cabcc
set_option maxRecDepth 20000 in
theorem ggJx4a65c_grow_92f84_J7_copyOf_1904c : GoodIn wsJx4a65c_grow_92f84 wsJ7_copyOf_1904c := goodIn_r _ [20, 21, 22, 23, 24, 25, 26, 19, 27, 28, 29, 30, 31, 5, 32, 33, 34, 35, 36] (by decide +kernel) (by decide +kernel)
set_option maxRecDepth 20000 in
theorem gJx4a65c_grow_92f84_J7_copyOf_1904c : GoodIn wsJx4a65c_grow_92f84 (va_wsS RJx4a65c 66 yJ7_copyOf_1904c wsJ7_copyOf_1904c) := goodIn_app (goodIn_of _ (by decide +kernel)) ggJx4a65c_grow_92f84_J7_copyOf_1904c
theorem dJx4a65c_grow_92f84_0 : decode cJx4a65c_grow_92f84 0 = .ok (.aload_n 0, 1) := by decide +kernel
theorem dJx4a65c_grow_92f84_1 : decode cJx4a65c_grow_92f84 1 = .ok (.getfield 9, 3) := by decide +kernel
theorem dJx4a65c_grow_92f84_4 : decode cJx4a65c_grow_92f84 4 = .ok (.arraylength, 1) := by decide +kernel
theorem dJx4a65c_grow_92f84_5 : decode cJx4a65c_grow_92f84 5 = .ok (.istore_n 2, 1) := by decide +kernel
theorem dJx4a65c_grow_92f84_6 : decode cJx4a65c_grow_92f84 6 = .ok (.iload_n 2, 1) := by decide +kernel
theorem dJx4a65c_grow_92f84_7 : decode cJx4a65c_grow_92f84 7 = .ok (.ifCond .gt 13, 3) := by decide +kernel
theorem dJx4a65c_grow_92f84_10 : decode cJx4a65c_grow_92f84 10 = .ok (.aload_n 0, 1) := by decide +kernel
theorem dJx4a65c_grow_92f84_11 : decode cJx4a65c_grow_92f84 11 = .ok (.getfield 9, 3) := by decide +kernel
theorem dJx4a65c_grow_92f84_14 : decode cJx4a65c_grow_92f84 14 = .ok (.getstatic 39, 3) := by decide +kernel
theorem dJx4a65c_grow_92f84_17 : decode cJx4a65c_grow_92f84 17 = .ok (.if_acmp .eq 28, 3) := by decide +kernel
theorem dJx4a65c_grow_92f84_20 : decode cJx4a65c_grow_92f84 20 = .ok (.iload_n 2, 1) := by decide +kernel
theorem dJx4a65c_grow_92f84_21 : decode cJx4a65c_grow_92f84 21 = .ok (.iload_n 1, 1) := by decide +kernel
theorem dJx4a65c_grow_92f84_22 : decode cJx4a65c_grow_92f84 22 = .ok (.iload_n 2, 1) := by decide +kernel
theorem dJx4a65c_grow_92f84_23 : decode cJx4a65c_grow_92f84 23 = .ok (.isub, 1) := by decide +kernel
theorem dJx4a65c_grow_92f84_24 : decode cJx4a65c_grow_92f84 24 = .ok (.iload_n 2, 1) := by decide +kernel
theorem dJx4a65c_grow_92f84_25 : decode cJx4a65c_grow_92f84 25 = .ok (.iconst 1, 1) := by decide +kernel
theorem dJx4a65c_grow_92f84_26 : decode cJx4a65c_grow_92f84 26 = .ok (.ishr, 1) := by decide +kernel
theorem dJx4a65c_grow_92f84_27 : decode cJx4a65c_grow_92f84 27 = .ok (.invokestatic 73, 3) := by decide +kernel
theorem dJx4a65c_grow_92f84_30 : decode cJx4a65c_grow_92f84 30 = .ok (.istore_n 3, 1) := by decide +kernel
theorem dJx4a65c_grow_92f84_31 : decode cJx4a65c_grow_92f84 31 = .ok (.aload_n 0, 1) := by decide +kernel
theorem dJx4a65c_grow_92f84_32 : decode cJx4a65c_grow_92f84 32 = .ok (.aload_n 0, 1) := by decide +kernel
theorem dJx4a65c_grow_92f84_33 : decode cJx4a65c_grow_92f84 33 = .ok (.getfield 9, 3) := by decide +kernel
theorem dJx4a65c_grow_92f84_36 : decode cJx4a65c_grow_92f84 36 = .ok (.iload_n 3, 1) := by decide +kernel
theorem dJx4a65c_grow_92f84_37 : decode cJx4a65c_grow_92f84 37 = .ok (.invokestatic 66, 3) := by decide +kernel
theorem dJx4a65c_grow_92f84_40 : decode cJx4a65c_grow_92f84 40 = .ok (.dup_x1, 1) := by decide +kernel
theorem dJx4a65c_grow_92f84_41 : decode cJx4a65c_grow_92f84 41 = .ok (.putfield 9, 3) := by decide +kernel
theorem dJx4a65c_grow_92f84_44 : decode cJx4a65c_grow_92f84 44 = .ok (.areturn, 1) := by decide +kernel
theorem dJx4a65c_grow_92f84_45 : decode cJx4a65c_grow_92f84 45 = .ok (.aload_n 0, 1) := by decide +kernel
theorem dJx4a65c_grow_92f84_46 : decode cJx4a65c_grow_92f84 46 = .ok (.bipush 10, 2) := by decide +kernel
theorem dJx4a65c_grow_92f84_48 : decode cJx4a65c_grow_92f84 48 = .ok (.iload_n 1, 1) := by decide +kernel
theorem dJx4a65c_grow_92f84_49 : decode cJx4a65c_grow_92f84 49 = .ok (.invokestatic 79, 3) := by decide +kernel
theorem dJx4a65c_grow_92f84_52 : decode cJx4a65c_grow_92f84 52 = .ok (.anewarray 7, 3) := by decide +kernel
theorem dJx4a65c_grow_92f84_55 : decode cJx4a65c_grow_92f84 55 = .ok (.dup_x1, 1) := by decide +kernel
theorem dJx4a65c_grow_92f84_56 : decode cJx4a65c_grow_92f84 56 = .ok (.putfield 9, 3) := by decide +kernel
theorem dJx4a65c_grow_92f84_59 : decode cJx4a65c_grow_92f84 59 = .ok (.areturn, 1) := by decide +kernel
set_option maxRecDepth 20000 in
theorem ggJx4a65c_grow_d5877_Jx4a65c_grow_92f84 : GoodIn wsJx4a65c_grow_d5877 wsJx4a65c_grow_92f84 := goodIn_r _ [6, 7, 8, 9, 10, 11, 12, 13, 14, 15, 16, 17, 18, 19, 20, 21, 22, 23, 24, 25, 26, 27, 28, 29, 30, 31, 32, 33, 34, 35, 36, 37, 38, 39, 40, 41, 42, 43, 44, 45] (by decide +kernel) (by decide +kernel)
set_option maxRecDepth 20000 in
theorem gJx4a65c_grow_d5877_Jx4a65c_grow_92f84 : GoodIn wsJx4a65c_grow_d5877 (wsV RJx4a65c 69 RJx4a65c yJx4a65c_grow_92f84 wsJx4a65c_grow_92f84) := goodIn_app (goodIn_of _ (by decide +kernel)) ggJx4a65c_grow_d5877_Jx4a65c_grow_92f84
theorem dJx4a65c_grow_d5877_0 : decode cJx4a65c_grow_d5877 0 = .ok (.aload_n 0, 1) := by decide +kernel
theorem dJx4a65c_grow_d5877_1 : decode cJx4a65c_grow_d5877 1 = .ok (.aload_n 0, 1) := by decide +kernel
theorem dJx4a65c_grow_d5877_2 : decode cJx4a65c_grow_d5877 2 = .ok (.getfield 48, 3) := by decide +kernel
theorem dJx4a65c_grow_d5877_5 : decode cJx4a65c_grow_d5877 5 = .ok (.iconst 1, 1) := by decide +kernel
theorem dJx4a65c_grow_d5877_6 : decode cJx4a65c_grow_d5877 6 = .ok (.iadd, 1) := by decide +kernel
theorem dJx4a65c_grow_d5877_7 : decode cJx4a65c_grow_d5877 7 = .ok (.invokevirtual 69, 3) := by decide +kernel
theorem dJx4a65c_grow_d5877_10 : decode cJx4a65c_grow_d5877 10 = .ok (.areturn, 1) := by decide +kernel
theorem dJx4a65c_size_8abf5_0 : decode cJx4a65c_size_8abf5 0 = .ok (.aload_n 0, 1) := by decide +kernel
theorem dJx4a65c_size_8abf5_1 : decode cJx4a65c_size_8abf5 1 = .ok (.getfield 48, 3) := by decide +kernel
theorem dJx4a65c_size_8abf5_4 : decode cJx4a65c_size_8abf5 4 = .ok (.ireturn, 1) := by decide +kernel
theorem dJx4a65c_elementData_915e3_0 : decode cJx4a65c_elementData_915e3 0 = .ok (.aload_n 0, 1) := by decide +kernel
theorem dJx4a65c_elementData_915e3_1 : decode cJx4a65c_elementData_915e3 1 = .ok (.getfield 9, 3) := by decide +kernel
theorem dJx4a65c_elementData_915e3_4 : decode cJx4a65c_elementData_915e3 4 = .ok (.iload_n 1, 1) := by decide +kernel
theorem dJx4a65c_elementData_915e3_5 : decode cJx4a65c_elementData_915e3 5 = .ok (.aaload, 1) := by decide +kernel
theorem dJx4a65c_elementData_915e3_6 : decode cJx4a65c_elementData_915e3 6 = .ok (.areturn, 1) := by decide +kernel
set_option maxRecDepth 20000 in
theorem ggJx4a65c_get_915e3_J15_checkIndex_7cf53 : GoodIn wsJx4a65c_get_915e3 wsJ15_checkIndex_7cf53 := goodIn_r _ [5, 6, 7, 8, 9] (by decide +kernel) (by decide +kernel)
set_option maxRecDepth 20000 in
theorem gJx4a65c_get_915e3_J15_checkIndex_7cf53 : GoodIn wsJx4a65c_get_915e3 (va_wsS RJx4a65c 118 yJ15_checkIndex_7cf53 wsJ15_checkIndex_7cf53) := goodIn_app (goodIn_of _ (by decide +kernel)) ggJx4a65c_get_915e3_J15_checkIndex_7cf53
set_option maxRecDepth 20000 in
theorem ggJx4a65c_get_915e3_Jx4a65c_elementData_915e3 : GoodIn wsJx4a65c_get_915e3 wsJx4a65c_elementData_915e3 := goodIn_r _ [14, 15, 16, 17, 18] (by decide +kernel) (by decide +kernel)
set_option maxRecDepth 20000 in
theorem gJx4a65c_get_915e3_Jx4a65c_elementData_915e3 : GoodIn wsJx4a65c_get_915e3 (wsV RJx4a65c 123 RJx4a65c yJx4a65c_elementData_915e3 wsJx4a65c_elementData_915e3) := goodIn_app (goodIn_of _ (by decide +kernel)) ggJx4a65c_get_915e3_Jx4a65c_elementData_915e3
theorem dJx4a65c_get_915e3_0 : decode cJx4a65c_get_915e3 0 = .ok (.iload_n 1, 1) := by decide +kernel
theorem dJx4a65c_get_915e3_1 : decode cJx4a65c_get_915e3 1 = .ok (.aload_n 0, 1) := by decide +kernel
theorem dJx4a65c_get_915e3_2 : decode cJx4a65c_get_915e3 2 = .ok (.getfield 48, 3) := by decide +kernel
theorem dJx4a65c_get_915e3_5 : decode cJx4a65c_get_915e3 5 = .ok (.invokestatic 118, 3) := by decide +kernel
theorem dJx4a65c_get_915e3_8 : decode cJx4a65c_get_915e3 8 = .ok (.pop, 1) := by decide +kernel
theorem dJx4a65c_get_915e3_9 : decode cJx4a65c_get_915e3 9 = .ok (.aload_n 0, 1) := by decide +kernel
theorem dJx4a65c_get_915e3_10 : decode cJx4a65c_get_915e3 10 = .ok (.iload_n 1, 1) := by decide +kernel
theorem dJx4a65c_get_915e3_11 : decode cJx4a65c_get_915e3 11 = .ok (.invokevirtual 123, 3) := by decide +kernel
theorem dJx4a65c_get_915e3_14 : decode cJx4a65c_get_915e3 14 = .ok (.areturn, 1) := by decide +kernel
set_option maxRecDepth 20000 in
theorem ggJx4a65c_add_72be8_Jx4a65c_grow_d5877 : GoodIn wsJx4a65c_add_72be8 wsJx4a65c_grow_d5877 := goodIn_r _ [6, 1, 7, 8, 9, 5, 10, 11, 12, 13, 14, 15, 16, 17, 18, 19, 20, 21, 22, 23, 24, 25, 26, 27, 28, 29, 30, 31, 32, 33, 34, 35, 36, 37, 38, 39, 40, 41, 42, 43, 44, 45, 46, 47, 48, 49] (by decide +kernel) (by decide +kernel)
set_option maxRecDepth 20000 in
theorem gJx4a65c_add_72be8_Jx4a65c_grow_d5877 : GoodIn wsJx4a65c_add_72be8 (wsV RJx4a65c 129 RJx4a65c yJx4a65c_grow_d5877 wsJx4a65c_grow_d5877) := goodIn_app (goodIn_of _ (by decide +kernel)) ggJx4a65c_add_72be8_Jx4a65c_grow_d5877
theorem dJx4a65c_add_72be8_0 : decode cJx4a65c_add_72be8 0 = .ok (.iload_n 3, 1) := by decide +kernel
theorem dJx4a65c_add_72be8_1 : decode cJx4a65c_add_72be8 1 = .ok (.aload_n 2, 1) := by decide +kernel
theorem dJx4a65c_add_72be8_2 : decode cJx4a65c_add_72be8 2 = .ok (.arraylength, 1) := by decide +kernel
theorem dJx4a65c_add_72be8_3 : decode cJx4a65c_add_72be8 3 = .ok (.if_icmp .ne 8, 3) := by decide +kernel
theorem dJx4a65c_add_72be8_6 : decode cJx4a65c_add_72be8 6 = .ok (.aload_n 0, 1) := by decide +kernel
theorem dJx4a65c_add_72be8_7 : decode cJx4a65c_add_72be8 7 = .ok (.invokevirtual 129, 3) := by decide +kernel
theorem dJx4a65c_add_72be8_10 : decode cJx4a65c_add_72be8 10 = .ok (.astore_n 2, 1) := by decide +kernel
theorem dJx4a65c_add_72be8_11 : decode cJx4a65c_add_72be8 11 = .ok (.aload_n 2, 1) := by decide +kernel
theorem dJx4a65c_add_72be8_12 : decode cJx4a65c_add_72be8 12 = .ok (.iload_n 3, 1) := by decide +kernel
theorem dJx4a65c_add_72be8_13 : decode cJx4a65c_add_72be8 13 = .ok (.aload_n 1, 1) := by decide +kernel
theorem dJx4a65c_add_72be8_14 : decode cJx4a65c_add_72be8 14 = .ok (.aastore, 1) := by decide +kernel
theorem dJx4a65c_add_72be8_15 : decode cJx4a65c_add_72be8 15 = .ok (.aload_n 0, 1) := by decide +kernel
theorem dJx4a65c_add_72be8_16 : decode cJx4a65c_add_72be8 16 = .ok (.iload_n 3, 1) := by decide +kernel
theorem dJx4a65c_add_72be8_17 : decode cJx4a65c_add_72be8 17 = .ok (.iconst 1, 1) := by decide +kernel
theorem dJx4a65c_add_72be8_18 : decode cJx4a65c_add_72be8 18 = .ok (.iadd, 1) := by decide +kernel
theorem dJx4a65c_add_72be8_19 : decode cJx4a65c_add_72be8 19 = .ok (.putfield 48, 3) := by decide +kernel
theorem dJx4a65c_add_72be8_22 : decode cJx4a65c_add_72be8 22 = .ok (.return_, 1) := by decide +kernel
set_option maxRecDepth 20000 in
theorem ggJx4a65c_add_9ea2d_Jx4a65c_add_72be8 : GoodIn wsJx4a65c_add_9ea2d wsJx4a65c_add_72be8 := goodIn_r _ [9, 4, 10, 11, 12, 8, 13, 14, 15, 16, 17, 3, 18, 19, 20, 21, 22, 23, 24, 25, 26, 27, 28, 29, 30, 31, 32, 33, 34, 35, 36, 37, 38, 39, 40, 41, 42, 43, 44, 45, 46, 47, 48, 49, 50, 51, 52, 53, 54, 55] (by decide +kernel) (by decide +kernel)
set_option maxRecDepth 20000 in
theorem gJx4a65c_add_9ea2d_Jx4a65c_add_72be8 : GoodIn wsJx4a65c_add_9ea2d (wsV RJx4a65c 131 RJx4a65c yJx4a65c_add_72be8 wsJx4a65c_add_72be8) := goodIn_app (goodIn_of _ (by decide +kernel)) ggJx4a65c_add_9ea2d_Jx4a65c_add_72be8
theorem dJx4a65c_add_9ea2d_0 : decode cJx4a65c_add_9ea2d 0 = .ok (.aload_n 0, 1) := by decide +kernel
theorem dJx4a65c_add_9ea2d_1 : decode cJx4a65c_add_9ea2d 1 = .ok (.dup, 1) := by decide +kernel
theorem dJx4a65c_add_9ea2d_2 : decode cJx4a65c_add_9ea2d 2 = .ok (.getfield 63, 3) := by decide +kernel
theorem dJx4a65c_add_9ea2d_5 : decode cJx4a65c_add_9ea2d 5 = .ok (.iconst 1, 1) := by decide +kernel
theorem dJx4a65c_add_9ea2d_6 : decode cJx4a65c_add_9ea2d 6 = .ok (.iadd, 1) := by decide +kernel
theorem dJx4a65c_add_9ea2d_7 : decode cJx4a65c_add_9ea2d 7 = .ok (.putfield 63, 3) := by decide +kernel
theorem dJx4a65c_add_9ea2d_10 : decode cJx4a65c_add_9ea2d 10 = .ok (.aload_n 0, 1) := by decide +kernel
theorem dJx4a65c_add_9ea2d_11 : decode cJx4a65c_add_9ea2d 11 = .ok (.aload_n 1, 1) := by decide +kernel
theorem dJx4a65c_add_9ea2d_12 : decode cJx4a65c_add_9ea2d 12 = .ok (.aload_n 0, 1) := by decide +kernel
theorem dJx4a65c_add_9ea2d_13 : decode cJx4a65c_add_9ea2d 13 = .ok (.getfield 9, 3) := by decide +kernel
theorem dJx4a65c_add_9ea2d_16 : decode cJx4a65c_add_9ea2d 16 = .ok (.aload_n 0, 1) := by decide +kernel
theorem dJx4a65c_add_9ea2d_17 : decode cJx4a65c_add_9ea2d 17 = .ok (.getfield 48, 3) := by decide +kernel
theorem dJx4a65c_add_9ea2d_20 : decode cJx4a65c_add_9ea2d 20 = .ok (.invokevirtual 131, 3) := by decide +kernel
theorem dJx4a65c_add_9ea2d_23 : decode cJx4a65c_add_9ea2d 23 = .ok (.iconst 1, 1) := by decide +kernel
theorem dJx4a65c_add_9ea2d_24 : decode cJx4a65c_add_9ea2d 24 = .ok (.ireturn, 1) := by decide +kernel
theorem dJ7_fill_53178_0 : decode cJ7_fill_53178 0 = .ok (.iconst 0, 1) := by decide +kernel
theorem dJ7_fill_53178_1 : decode cJ7_fill_53178 1 = .ok (.istore_n 2, 1) := by decide +kernel
theorem dJ7_fill_53178_2 : decode cJ7_fill_53178 2 = .ok (.aload_n 0, 1) := by decide +kernel
theorem dJ7_fill_53178_3 : decode cJ7_fill_53178 3 = .ok (.arraylength, 1) := by decide +kernel
theorem dJ7_fill_53178_4 : decode cJ7_fill_53178 4 = .ok (.istore_n 3, 1) := by decide +kernel
theorem dJ7_fill_53178_5 : decode cJ7_fill_53178 5 = .ok (.iload_n 2, 1) := by decide +kernel
theorem dJ7_fill_53178_6 : decode cJ7_fill_53178 6 = .ok (.iload_n 3, 1) := by decide +kernel
theorem dJ7_fill_53178_7 : decode cJ7_fill_53178 7 = .ok (.if_icmp .ge 13, 3) := by decide +kernel
theorem dJ7_fill_53178_10 : decode cJ7_fill_53178 10 = .ok (.aload_n 0, 1) := by decide +kernel
theorem dJ7_fill_53178_11 : decode cJ7_fill_53178 11 = .ok (.iload_n 2, 1) := by decide +kernel
theorem dJ7_fill_53178_12 : decode cJ7_fill_53178 12 = .ok (.iload_n 1, 1) := by decide +kernel
theorem dJ7_fill_53178_13 : decode cJ7_fill_53178 13 = .ok (.iastore, 1) := by decide +kernel
theorem dJ7_fill_53178_14 : decode cJ7_fill_53178 14 = .ok (.iinc 2 1, 3) := by decide +kernel
theorem dJ7_fill_53178_17 : decode cJ7_fill_53178 17 = .ok (.goto (-12), 3) := by decide +kernel
theorem dJ7_fill_53178_20 : decode cJ7_fill_53178 20 = .ok (.return_, 1) := by decide +kernel
set_option maxRecDepth 20000 in
theorem ggJ7_copyOf_1904c_J7_copyOf_6403c : GoodIn wsJ7_copyOf_1904c wsJ7_copyOf_6403c := goodIn_r _ [8, 9, 10, 11, 12, 13, 14, 15, 16, 17, 18] (by decide +kernel) (by decide +kernel)
set_option maxRecDepth 20000 in
theorem gJ7_copyOf_1904c_J7_copyOf_6403c : GoodIn wsJ7_copyOf_1904c (va_wsS RJ7 300 yJ7_copyOf_6403c wsJ7_copyOf_6403c) := goodIn_app (goodIn_of _ (by decide +kernel)) ggJ7_copyOf_1904c_J7_copyOf_6403c
theorem dJ7_copyOf_1904c_0 : decode cJ7_copyOf_1904c 0 = .ok (.aload_n 0, 1) := by decide +kernel
theorem dJ7_copyOf_1904c_1 : decode cJ7_copyOf_1904c 1 = .ok (.iload_n 1, 1) := by decide +kernel
theorem dJ7_copyOf_1904c_2 : decode cJ7_copyOf_1904c 2 = .ok (.aload_n 0, 1) := by decide +kernel
theorem dJ7_copyOf_1904c_3 : decode cJ7_copyOf_1904c 3 = .ok (.invokevirtual 86, 3) := by decide +kernel
theorem dJ7_copyOf_1904c_6 : decode cJ7_copyOf_1904c 6 = .ok (.invokestatic 300, 3) := by decide +kernel
theorem dJ7_copyOf_1904c_9 : decode cJ7_copyOf_1904c 9 = .ok (.areturn, 1) := by decide +kernel
theorem dJ7_copyOf_6403c_0 : decode cJ7_copyOf_6403c 0 = .ok (.aload_n 2, 1) := by decide +kernel
theorem dJ7_copyOf_6403c_1 : decode cJ7_copyOf_6403c 1 = .ok (.ldc 110, 2) := by decide +kernel
theorem dJ7_copyOf_6403c_3 : decode cJ7_copyOf_6403c 3 = .ok (.if_acmp .ne 10, 3) := by decide +kernel
theorem dJ7_copyOf_6403c_6 : decode cJ7_copyOf_6403c 6 = .ok (.iload_n 1, 1) := by decide +kernel
theorem dJ7_copyOf_6403c_7 : decode cJ7_copyOf_6403c 7 = .ok (.anewarray 2, 3) := by decide +kernel
theorem dJ7_copyOf_6403c_10 : decode cJ7_copyOf_6403c 10 = .ok (.goto 14, 3) := by decide +kernel
theorem dJ7_copyOf_6403c_13 : decode cJ7_copyOf_6403c 13 = .ok (.aload_n 2, 1) := by decide +kernel
theorem dJ7_copyOf_6403c_14 : decode cJ7_copyOf_6403c 14 = .ok (.invokevirtual 90, 3) := by decide +kernel
theorem dJ7_copyOf_6403c_17 : decode cJ7_copyOf_6403c 17 = .ok (.iload_n 1, 1) := by decide +kernel
theorem dJ7_copyOf_6403c_18 : decode cJ7_copyOf_6403c 18 = .ok (.invokestatic 95, 3) := by decide +kernel
theorem dJ7_copyOf_6403c_21 : decode cJ7_copyOf_6403c 21 = .ok (.checkcast 110, 3) := by decide +kernel
theorem dJ7_copyOf_6403c_24 : decode cJ7_copyOf_6403c 24 = .ok (.astore_n 3, 1) := by decide +kernel
theorem dJ7_copyOf_6403c_25 : decode cJ7_copyOf_6403c 25 = .ok (.aload_n 0, 1) := by decide +kernel
theorem dJ7_copyOf_6403c_26 : decode cJ7_copyOf_6403c 26 = .ok (.iconst 0, 1) := by decide +kernel
theorem dJ7_copyOf_6403c_27 : decode cJ7_copyOf_6403c 27 = .ok (.aload_n 3, 1) := by decide +kernel
theorem dJ7_copyOf_6403c_28 : decode cJ7_copyOf_6403c 28 = .ok (.iconst 0, 1) := by decide +kernel
theorem dJ7_copyOf_6403c_29 : decode cJ7_copyOf_6403c 29 = .ok (.aload_n 0, 1) := by decide +kernel
theorem dJ7_copyOf_6403c_30 : decode cJ7_copyOf_6403c 30 = .ok (.arraylength, 1) := by decide +kernel
theorem dJ7_copyOf_6403c_31 : decode cJ7_copyOf_6403c 31 = .ok (.iload_n 1, 1) := by decide +kernel
theorem dJ7_copyOf_6403c_32 : decode cJ7_copyOf_6403c 32 = .ok (.invokestatic 304, 3) := by decide +kernel
theorem dJ7_copyOf_6403c_35 : decode cJ7_copyOf_6403c 35 = .ok (.invokestatic 150, 3) := by decide +kernel
theorem dJ7_copyOf_6403c_38 : decode cJ7_copyOf_6403c 38 = .ok (.aload_n 3, 1) := by decide +kernel
theorem dJ7_copyOf_6403c_39 : decode cJ7_copyOf_6403c 39 = .ok (.areturn, 1) := by decide +kernel
set_option maxRecDepth 20000 in
theorem ggJ15_checkIndex_7cf53_J3_checkIndex_8e157 : GoodIn wsJ15_checkIndex_7cf53 wsJ3_checkIndex_8e157 := goodIn_r _ [4] (by decide +kernel) (by decide +kernel)
set_option maxRecDepth 20000 in
theorem gJ15_checkIndex_7cf53_J3_checkIndex_8e157 : GoodIn wsJ15_checkIndex_7cf53 (va_wsS RJ15 105 yJ3_checkIndex_8e157 wsJ3_checkIndex_8e157) := goodIn_app (goodIn_of _ (by decide +kernel)) ggJ15_checkIndex_7cf53_J3_checkIndex_8e157
theorem dJ15_checkIndex_7cf53_0 : decode cJ15_checkIndex_7cf53 0 = .ok (.iload_n 0, 1) := by decide +kernel
theorem dJ15_checkIndex_7cf53_1 : decode cJ15_checkIndex_7cf53 1 = .ok (.iload_n 1, 1) := by decide +kernel
theorem dJ15_checkIndex_7cf53_2 : decode cJ15_checkIndex_7cf53 2 = .ok (.aconst_null, 1) := by decide +kernel
theorem dJ15_checkIndex_7cf53_3 : decode cJ15_checkIndex_7cf53 3 = .ok (.invokestatic 105, 3) := by decide +kernel
theorem dJ15_checkIndex_7cf53_6 : decode cJ15_checkIndex_7cf53 6 = .ok (.ireturn, 1) := by decide +kernel
set_option maxRecDepth 20000 in
theorem ggJ8_newLength_cabcc_J8_hugeLength_7cf53 : GoodIn wsJ8_newLength_cabcc wsJ8_hugeLength_7cf53 := goodIn_r _ [9, 5] (by decide +kernel) (by decide +kernel)
set_option maxRecDepth 20000 in
theorem gJ8_newLength_cabcc_J8_hugeLength_7cf53 : GoodIn wsJ8_newLength_cabcc (va_wsS RJ8 201 yJ8_hugeLength_7cf53 wsJ8_hugeLength_7cf53) := goodIn_app (goodIn_of _ (by decide +kernel)) ggJ8_newLength_cabcc_J8_hugeLength_7cf53
theorem dJ8_newLength_cabcc_0 : decode cJ8_newLength_cabcc 0 = .ok (.iload_n 0, 1) := by decide +kernel
theorem dJ8_newLength_cabcc_1 : decode cJ8_newLength_cabcc 1 = .ok (.iload_n 1, 1) := by decide +kernel
theorem dJ8_newLength_cabcc_2 : decode cJ8_newLength_cabcc 2 = .ok (.iload_n 2, 1) := by decide +kernel
theorem dJ8_newLength_cabcc_3 : decode cJ8_newLength_cabcc 3 = .ok (.invokestatic 194, 3) := by decide +kernel
theorem dJ8_newLength_cabcc_6 : decode cJ8_newLength_cabcc 6 = .ok (.iadd, 1) := by decide +kernel
theorem dJ8_newLength_cabcc_7 : decode cJ8_newLength_cabcc 7 = .ok (.istore_n 3, 1) := by decide +kernel
theorem dJ8_newLength_cabcc_8 : decode cJ8_newLength_cabcc 8 = .ok (.iconst 0, 1) := by decide +kernel
theorem dJ8_newLength_cabcc_9 : decode cJ8_newLength_cabcc 9 = .ok (.iload_n 3, 1) := by decide +kernel
theorem dJ8_newLength_cabcc_10 : decode cJ8_newLength_cabcc 10 = .ok (.if_icmp .ge 11, 3) := by decide +kernel
theorem dJ8_newLength_cabcc_13 : decode cJ8_newLength_cabcc 13 = .ok (.iload_n 3, 1) := by decide +kernel
theorem dJ8_newLength_cabcc_14 : decode cJ8_newLength_cabcc 14 = .ok (.ldc 200, 2) := by decide +kernel
theorem dJ8_newLength_cabcc_16 : decode cJ8_newLength_cabcc 16 = .ok (.if_icmp .gt 5, 3) := by decide +kernel
theorem dJ8_newLength_cabcc_19 : decode cJ8_newLength_cabcc 19 = .ok (.iload_n 3, 1) := by decide +kernel
theorem dJ8_newLength_cabcc_20 : decode cJ8_newLength_cabcc 20 = .ok (.ireturn, 1) := by decide +kernel
theorem dJ8_newLength_cabcc_21 : decode cJ8_newLength_cabcc 21 = .ok (.iload_n 0, 1) := by decide +kernel
theorem dJ8_newLength_cabcc_22 : decode cJ8_newLength_cabcc 22 = .ok (.iload_n 1, 1) := by decide +kernel
theorem dJ8_newLength_cabcc_23 : decode cJ8_newLength_cabcc 23 = .ok (.invokestatic 201, 3) := by decide +kernel
theorem dJ8_newLength_cabcc_26 : decode cJ8_newLength_cabcc 26 = .ok (.ireturn, 1) := by decide +kernel
theorem dJ8_hugeLength_7cf53_0 : decode cJ8_hugeLength_7cf53 0 = .ok (.iload_n 0, 1) := by decide +kernel
theorem dJ8_hugeLength_7cf53_1 : decode cJ8_hugeLength_7cf53 1 = .ok (.iload_n 1, 1) := by decide +kernel
theorem dJ8_hugeLength_7cf53_2 : decode cJ8_hugeLength_7cf53 2 = .ok (.iadd, 1) := by decide +kernel
theorem dJ8_hugeLength_7cf53_3 : decode cJ8_hugeLength_7cf53 3 = .ok (.istore_n 2, 1) := by decide +kernel
theorem dJ8_hugeLength_7cf53_4 : decode cJ8_hugeLength_7cf53 4 = .ok (.iload_n 2, 1) := by decide +kernel
theorem dJ8_hugeLength_7cf53_5 : decode cJ8_hugeLength_7cf53 5 = .ok (.ifCond .ge 44, 3) := by decide +kernel
theorem dJ8_hugeLength_7cf53_8 : decode cJ8_hugeLength_7cf53 8 = .ok (.new 204, 3) := by decide +kernel
theorem dJ8_hugeLength_7cf53_11 : decode cJ8_hugeLength_7cf53 11 = .ok (.dup, 1) := by decide +kernel
theorem dJ8_hugeLength_7cf53_12 : decode cJ8_hugeLength_7cf53 12 = .ok (.new 89, 3) := by decide +kernel
theorem dJ8_hugeLength_7cf53_15 : decode cJ8_hugeLength_7cf53 15 = .ok (.dup, 1) := by decide +kernel
theorem dJ8_hugeLength_7cf53_16 : decode cJ8_hugeLength_7cf53 16 = .ok (.invokespecial 91, 3) := by decide +kernel
theorem dJ8_hugeLength_7cf53_19 : decode cJ8_hugeLength_7cf53 19 = .ok (.ldc 206, 2) := by decide +kernel
theorem dJ8_hugeLength_7cf53_21 : decode cJ8_hugeLength_7cf53 21 = .ok (.invokevirtual 94, 3) := by decide +kernel
theorem dJ8_hugeLength_7cf53_24 : decode cJ8_hugeLength_7cf53 24 = .ok (.iload_n 0, 1) := by decide +kernel
theorem dJ8_hugeLength_7cf53_25 : decode cJ8_hugeLength_7cf53 25 = .ok (.invokevirtual 98, 3) := by decide +kernel
theorem dJ8_hugeLength_7cf53_28 : decode cJ8_hugeLength_7cf53 28 = .ok (.ldc 208, 2) := by decide +kernel
theorem dJ8_hugeLength_7cf53_30 : decode cJ8_hugeLength_7cf53 30 = .ok (.invokevirtual 94, 3) := by decide +kernel
theorem dJ8_hugeLength_7cf53_33 : decode cJ8_hugeLength_7cf53 33 = .ok (.iload_n 1, 1) := by decide +kernel
theorem dJ8_hugeLength_7cf53_34 : decode cJ8_hugeLength_7cf53 34 = .ok (.invokevirtual 98, 3) := by decide +kernel
theorem dJ8_hugeLength_7cf53_37 : decode cJ8_hugeLength_7cf53 37 = .ok (.ldc 210, 2) := by decide +kernel
theorem dJ8_hugeLength_7cf53_39 : decode cJ8_hugeLength_7cf53 39 = .ok (.invokevirtual 94, 3) := by decide +kernel
theorem dJ8_hugeLength_7cf53_42 : decode cJ8_hugeLength_7cf53 42 = .ok (.invokevirtual 101, 3) := by decide +kernel
theorem dJ8_hugeLength_7cf53_45 : decode cJ8_hugeLength_7cf53 45 = .ok (.invokespecial 212, 3) := by decide +kernel
theorem dJ8_hugeLength_7cf53_48 : decode cJ8_hugeLength_7cf53 48 = .ok (.athrow, 1) := by decide +kernel
theorem dJ8_hugeLength_7cf53_49 : decode cJ8_hugeLength_7cf53 49 = .ok (.iload_n 2, 1) := by decide +kernel
theorem dJ8_hugeLength_7cf53_50 : decode cJ8_hugeLength_7cf53 50 = .ok (.ldc 200, 2) := by decide +kernel
theorem dJ8_hugeLength_7cf53_52 : decode cJ8_hugeLength_7cf53 52 = .ok (.if_icmp .gt 6, 3) := by decide +kernel
theorem dJ8_hugeLength_7cf53_55 : decode cJ8_hugeLength_7cf53 55 = .ok (.ldc 200, 2) := by decide +kernel
theorem dJ8_hugeLength_7cf53_57 : decode cJ8_hugeLength_7cf53 57 = .ok (.ireturn, 1) := by decide +kernel
theorem dJ8_hugeLength_7cf53_58 : decode cJ8_hugeLength_7cf53 58 = .ok (.iload_n 2, 1) := by decide +kernel
theorem dJ8_hugeLength_7cf53_59 : decode cJ8_hugeLength_7cf53 59 = .ok (.ireturn, 1) := by decide +kernel
theorem dJ3_checkIndex_8e157_0 : decode cJ3_checkIndex_8e157 0 = .ok (.iload_n 0, 1) := by decide +kernel
theorem dJ3_checkIndex_8e157_1 : decode cJ3_checkIndex_8e157 1 = .ok (.ifCond .lt 8, 3) := by decide +kernel
theorem dJ3_checkIndex_8e157_4 : decode cJ3_checkIndex_8e157 4 = .ok (.iload_n 0, 1) := by decide +kernel
theorem dJ3_checkIndex_8e157_5 : decode cJ3_checkIndex_8e157 5 = .ok (.iload_n 1, 1) := by decide +kernel
theorem dJ3_checkIndex_8e157_6 : decode cJ3_checkIndex_8e157 6 = .ok (.if_icmp .lt 10, 3) := by decide +kernel
theorem dJ3_checkIndex_8e157_9 : decode cJ3_checkIndex_8e157 9 = .ok (.aload_n 2, 1) := by decide +kernel
theorem dJ3_checkIndex_8e157_10 : decode cJ3_checkIndex_8e157 10 = .ok (.iload_n 0, 1) := by decide +kernel
theorem dJ3_checkIndex_8e157_11 : decode cJ3_checkIndex_8e157 11 = .ok (.iload_n 1, 1) := by decide +kernel
theorem dJ3_checkIndex_8e157_12 : decode cJ3_checkIndex_8e157 12 = .ok (.invokestatic 95, 3) := by decide +kernel
theorem dJ3_checkIndex_8e157_15 : decode cJ3_checkIndex_8e157 15 = .ok (.athrow, 1) := by decide +kernel
theorem dJ3_checkIndex_8e157_16 : decode cJ3_checkIndex_8e157 16 = .ok (.iload_n 0, 1) := by decide +kernel
theorem dJ3_checkIndex_8e157_17 : decode cJ3_checkIndex_8e157 17 = .ok (.ireturn, 1) := by decide +kernel
theorem dL_at_0 : decode cL_at 0 = .ok (.iload_n 1, 1) := by decide +kernel
theorem dL_at_1 : decode cL_at 1 = .ok (.aload_n 0, 1) := by decide +kernel
theorem dL_at_2 : decode cL_at 2 = .ok (.arraylength, 1) := by decide +kernel
theorem dL_at_3 : decode cL_at 3 = .ok (.if_icmp .ge 9, 3) := by decide +kernel
theorem dL_at_6 : decode cL_at 6 = .ok (.aload_n 0, 1) := by decide +kernel
theorem dL_at_7 : decode cL_at 7 = .ok (.iload_n 1, 1) := by decide +kernel
theorem dL_at_8 : decode cL_at 8 = .ok (.iaload, 1) := by decide +kernel
theorem dL_at_9 : decode cL_at 9 = .ok (.goto 12, 3) := by decide +kernel
theorem dL_at_12 : decode cL_at 12 = .ok (.ldc 7, 2) := by decide +kernel
theorem dL_at_14 : decode cL_at 14 = .ok (.iload_n 1, 1) := by decide +kernel
theorem dL_at_15 : decode cL_at 15 = .ok (.iconst 1, 1) := by decide +kernel
theorem dL_at_16 : decode cL_at 16 = .ok (.iadd, 1) := by decide +kernel
theorem dL_at_17 : decode cL_at 17 = .ok (.imul, 1) := by decide +kernel
theorem dL_at_18 : decode cL_at 18 = .ok (.ldc 8, 2) := by decide +kernel
theorem dL_at_20 : decode cL_at 20 = .ok (.iadd, 1) := by decide +kernel
theorem dL_at_21 : decode cL_at 21 = .ok (.ireturn, 1) := by decide +kernel
theorem dL_low_0 : decode cL_low 0 = .ok (.iload_n 0, 1) := by decide +kernel
theorem dL_low_1 : decode cL_low 1 = .ok (.ldc 9, 2) := by decide +kernel
theorem dL_low_3 : decode cL_low 3 = .ok (.iand, 1) := by decide +kernel
theorem dL_low_4 : decode cL_low 4 = .ok (.iload_n 1, 1) := by decide +kernel
theorem dL_low_5 : decode cL_low 5 = .ok (.irem, 1) := by decide +kernel
theorem dL_low_6 : decode cL_low 6 = .ok (.ireturn, 1) := by decide +kernel
set_option maxRecDepth 20000 in
theorem ggL_steel_X5_steel : GoodIn wsL_steel wsX5_steel := goodIn_ca (goodIn_ca (goodIn_r _ [9, 10, 11, 12, 13, 14, 15, 16, 17, 8, 18, 19, 20, 21, 22, 23, 24, 25, 26, 27, 28, 29, 30, 31, 32] (by decide +kernel) (by decide +kernel)) (goodIn_sub (fun _ h => List.mem_cons_of_mem _ (List.mem_append_left _ (List.mem_append_right _ h))) (by decide +kernel))) (goodIn_sub (fun _ h => List.mem_cons_of_mem _ (List.mem_append_right _ h)) (by decide +kernel))
set_option maxRecDepth 20000 in
theorem gL_steel_X5_steel : GoodIn wsL_steel (wsV RL 10 RX5 yX5_steel wsX5_steel) := goodIn_app (goodIn_of _ (by decide +kernel)) ggL_steel_X5_steel
theorem dL_steel_0 : decode cL_steel 0 = .ok (.aload_n 0, 1) := by decide +kernel
theorem dL_steel_1 : decode cL_steel 1 = .ok (.iload_n 1, 1) := by decide +kernel
theorem dL_steel_2 : decode cL_steel 2 = .ok (.iload_n 2, 1) := by decide +kernel
theorem dL_steel_3 : decode cL_steel 3 = .ok (.iload_n 3, 1) := by decide +kernel
theorem dL_steel_4 : decode cL_steel 4 = .ok (.iload 4, 2) := by decide +kernel
theorem dL_steel_6 : decode cL_steel 6 = .ok (.invokevirtual 10, 3) := by decide +kernel
theorem dL_steel_9 : decode cL_steel 9 = .ok (.iconst 0, 1) := by decide +kernel
theorem dL_steel_10 : decode cL_steel 10 = .ok (.ireturn, 1) := by decide +kernel
theorem dL_steel_11 : decode cL_steel 11 = .ok (.astore 5, 2) := by decide +kernel
theorem dL_steel_13 : decode cL_steel 13 = .ok (.ldc 18, 2) := by decide +kernel
theorem dL_steel_15 : decode cL_steel 15 = .ok (.ireturn, 1) := by decide +kernel
theorem dL_steel_16 : decode cL_steel 16 = .ok (.astore 5, 2) := by decide +kernel
theorem dL_steel_18 : decode cL_steel 18 = .ok (.ldc 21, 2) := by decide +kernel
theorem dL_steel_20 : decode cL_steel 20 = .ok (.ireturn, 1) := by decide +kernel
set_option maxRecDepth 20000 in
theorem ggL_melt_X5_melt : GoodIn wsL_melt wsX5_melt := goodIn_ca (goodIn_ca (goodIn_r _ [9, 10, 11, 12, 13, 14, 15, 8, 16, 17, 18, 19, 20, 21, 22, 23, 24, 25, 26, 27, 28, 29, 30, 31, 32, 33, 34, 35, 36, 37, 38, 39, 40, 41, 42, 43, 44, 45, 46, 47, 48, 49, 50, 51, 52, 53, 54, 55, 56, 57, 58, 59, 60, 61, 62, 63, 64, 65, 66, 67, 68, 69, 70, 71, 72, 73, 74, 75, 76, 77, 78, 79, 80, 81, 82, 83, 84, 85, 86, 87, 88, 89, 90] (by decide +kernel) (by decide +kernel)) (goodIn_sub (fun _ h => List.mem_cons_of_mem _ (List.mem_append_left _ (List.mem_append_right _ h))) (by decide +kernel))) (goodIn_sub (fun _ h => List.mem_cons_of_mem _ (List.mem_append_right _ h)) (by decide +kernel))
set_option maxRecDepth 20000 in
theorem gL_melt_X5_melt : GoodIn wsL_melt (wsV RL 22 RX5 yX5_melt wsX5_melt) := goodIn_app (goodIn_of _ (by decide +kernel)) ggL_melt_X5_melt
theorem dL_melt_0 : decode cL_melt 0 = .ok (.aload_n 0, 1) := by decide +kernel
theorem dL_melt_1 : decode cL_melt 1 = .ok (.iload_n 1, 1) := by decide +kernel
theorem dL_melt_2 : decode cL_melt 2 = .ok (.invokevirtual 22, 3) := by decide +kernel
theorem dL_melt_5 : decode cL_melt 5 = .ok (.ireturn, 1) := by decide +kernel
theorem dL_melt_6 : decode cL_melt 6 = .ok (.astore_n 2, 1) := by decide +kernel
theorem dL_melt_7 : decode cL_melt 7 = .ok (.ldc 18, 2) := by decide +kernel
theorem dL_melt_9 : decode cL_melt 9 = .ok (.ireturn, 1) := by decide +kernel
theorem dL_melt_10 : decode cL_melt 10 = .ok (.astore_n 2, 1) := by decide +kernel
theorem dL_melt_11 : decode cL_melt 11 = .ok (.ldc 28, 2) := by decide +kernel
theorem dL_melt_13 : decode cL_melt 13 = .ok (.ireturn, 1) := by decide +kernel
set_option maxRecDepth 20000 in
theorem ggL_billet_X5_billet : GoodIn wsL_billet wsX5_billet := goodIn_ca (goodIn_ca (goodIn_ca (goodIn_r _ [11, 12, 13, 14, 15, 16, 17, 18, 19, 20, 21, 22, 23, 24, 25, 26, 27, 28, 29, 30, 31, 32, 33, 34, 35, 36, 37, 38, 39, 40, 41, 42, 43, 44, 45, 46, 47, 48, 49, 50, 51, 52, 53, 54, 55, 56, 57, 58, 59, 60, 61, 62, 63, 64, 65, 66, 67, 68, 69, 70, 71, 72, 73, 74, 75, 76, 77, 78, 79, 80, 81, 82, 83, 84, 85, 86, 87, 88, 89, 90, 91, 92, 93, 94, 95, 96, 97, 98, 99, 100, 101, 102, 103, 104, 105, 106, 107, 108, 109, 110, 111, 112, 113, 114, 115, 116, 117, 118, 119, 120, 121, 122, 123, 124, 125, 126, 127, 128, 129, 130, 131, 132, 133, 134, 135, 136, 137, 138, 139, 140, 141, 142, 143, 144, 145, 146, 147, 148, 149, 150] (by decide +kernel) (by decide +kernel)) (goodIn_sub (fun _ h => List.mem_cons_of_mem _ (List.mem_append_left _ (List.mem_append_left _ (List.mem_append_right _ h)))) (by decide +kernel))) (goodIn_sub (fun _ h => List.mem_cons_of_mem _ (List.mem_append_left _ (List.mem_append_right _ h))) (by decide +kernel))) (goodIn_sub (fun _ h => List.mem_cons_of_mem _ (List.mem_append_right _ h)) (by decide +kernel))
set_option maxRecDepth 20000 in
theorem gL_billet_X5_billet : GoodIn wsL_billet (wsV RL 29 RX5 yX5_billet wsX5_billet) := goodIn_app (goodIn_of _ (by decide +kernel)) ggL_billet_X5_billet
theorem dL_billet_0 : decode cL_billet 0 = .ok (.aload_n 0, 1) := by decide +kernel
theorem dL_billet_1 : decode cL_billet 1 = .ok (.iload_n 1, 1) := by decide +kernel
theorem dL_billet_2 : decode cL_billet 2 = .ok (.iload_n 2, 1) := by decide +kernel
theorem dL_billet_3 : decode cL_billet 3 = .ok (.invokevirtual 29, 3) := by decide +kernel
theorem dL_billet_6 : decode cL_billet 6 = .ok (.ireturn, 1) := by decide +kernel
theorem dL_billet_7 : decode cL_billet 7 = .ok (.astore_n 3, 1) := by decide +kernel
theorem dL_billet_8 : decode cL_billet 8 = .ok (.ldc 18, 2) := by decide +kernel
theorem dL_billet_10 : decode cL_billet 10 = .ok (.ireturn, 1) := by decide +kernel
theorem dL_billet_11 : decode cL_billet 11 = .ok (.astore_n 3, 1) := by decide +kernel
theorem dL_billet_12 : decode cL_billet 12 = .ok (.ldc 21, 2) := by decide +kernel
theorem dL_billet_14 : decode cL_billet 14 = .ok (.ireturn, 1) := by decide +kernel
theorem dL_billet_15 : decode cL_billet 15 = .ok (.astore_n 3, 1) := by decide +kernel
theorem dL_billet_16 : decode cL_billet 16 = .ok (.ldc 28, 2) := by decide +kernel
theorem dL_billet_18 : decode cL_billet 18 = .ok (.ireturn, 1) := by decide +kernel
set_option maxRecDepth 20000 in
theorem ggL_billetIs_X5_billetIs : GoodIn wsL_billetIs wsX5_billetIs := goodIn_ca (goodIn_ca (goodIn_r _ [9, 10, 11, 12, 13, 14, 15, 16, 17, 18, 19, 20, 21, 22, 8, 23, 24, 25, 26, 27, 28, 29, 30, 31, 32, 33, 34, 35, 36, 37, 38, 39, 40, 41, 42, 43, 44, 45, 46, 47, 48, 49, 50, 51, 52, 53, 54, 55, 56, 57, 58, 59, 60, 61, 62, 63, 64, 65, 66, 67, 68, 69, 70, 71, 72, 73, 74, 75, 76, 77, 78, 79, 80, 81, 82, 83, 84, 85] (by decide +kernel) (by decide +kernel)) (goodIn_sub (fun _ h => List.mem_cons_of_mem _ (List.mem_append_left _ (List.mem_append_right _ h))) (by decide +kernel))) (goodIn_sub (fun _ h => List.mem_cons_of_mem _ (List.mem_append_right _ h)) (by decide +kernel))
set_option maxRecDepth 20000 in
theorem gL_billetIs_X5_billetIs : GoodIn wsL_billetIs (wsV RL 33 RX5 yX5_billetIs wsX5_billetIs) := goodIn_app (goodIn_of _ (by decide +kernel)) ggL_billetIs_X5_billetIs
theorem dL_billetIs_0 : decode cL_billetIs 0 = .ok (.aload_n 0, 1) := by decide +kernel
theorem dL_billetIs_1 : decode cL_billetIs 1 = .ok (.iload_n 1, 1) := by decide +kernel
theorem dL_billetIs_2 : decode cL_billetIs 2 = .ok (.iload_n 2, 1) := by decide +kernel
theorem dL_billetIs_3 : decode cL_billetIs 3 = .ok (.invokevirtual 33, 3) := by decide +kernel
theorem dL_billetIs_6 : decode cL_billetIs 6 = .ok (.ireturn, 1) := by decide +kernel
theorem dL_billetIs_7 : decode cL_billetIs 7 = .ok (.astore_n 3, 1) := by decide +kernel
theorem dL_billetIs_8 : decode cL_billetIs 8 = .ok (.ldc 18, 2) := by decide +kernel
theorem dL_billetIs_10 : decode cL_billetIs 10 = .ok (.ireturn, 1) := by decide +kernel
theorem dL_billetIs_11 : decode cL_billetIs 11 = .ok (.astore_n 3, 1) := by decide +kernel
theorem dL_billetIs_12 : decode cL_billetIs 12 = .ok (.ldc 21, 2) := by decide +kernel
theorem dL_billetIs_14 : decode cL_billetIs 14 = .ok (.ireturn, 1) := by decide +kernel
set_option maxRecDepth 20000 in
theorem ggL_area_X5_area : GoodIn wsL_area wsX5_area := goodIn_ca (goodIn_r _ [7, 8, 9, 10, 11, 6, 12, 13, 14, 15, 16, 17, 18, 19, 20, 21, 22, 23, 24, 25, 26, 27, 28, 29, 30, 31, 32, 33, 34, 35, 36, 37, 38, 39, 40, 41, 42, 43, 44, 45, 46, 47, 48, 49, 50, 51, 52, 53, 54, 55, 56, 57, 58, 59, 60, 61, 62, 63, 64, 65, 66, 67, 68, 69, 70, 71] (by decide +kernel) (by decide +kernel)) (goodIn_sub (fun _ h => List.mem_cons_of_mem _ (List.mem_append_right _ h)) (by decide +kernel))
set_option maxRecDepth 20000 in
theorem gL_area_X5_area : GoodIn wsL_area (wsV RL 36 RX5 yX5_area wsX5_area) := goodIn_app (goodIn_of _ (by decide +kernel)) ggL_area_X5_area
theorem dL_area_0 : decode cL_area 0 = .ok (.aload_n 0, 1) := by decide +kernel
theorem dL_area_1 : decode cL_area 1 = .ok (.iload_n 1, 1) := by decide +kernel
theorem dL_area_2 : decode cL_area 2 = .ok (.iload_n 2, 1) := by decide +kernel
theorem dL_area_3 : decode cL_area 3 = .ok (.invokevirtual 36, 3) := by decide +kernel
theorem dL_area_6 : decode cL_area 6 = .ok (.ireturn, 1) := by decide +kernel
theorem dL_area_7 : decode cL_area 7 = .ok (.astore_n 3, 1) := by decide +kernel
theorem dL_area_8 : decode cL_area 8 = .ok (.ldc 18, 2) := by decide +kernel
theorem dL_area_10 : decode cL_area 10 = .ok (.ireturn, 1) := by decide +kernel
set_option maxRecDepth 20000 in
theorem ggL_balances_X5_balances : GoodIn wsL_balances wsX5_balances := goodIn_ca (goodIn_r _ [7, 8, 9, 10, 11, 12, 13, 14, 6, 15, 16, 17, 18, 19, 20, 21, 22, 23, 24, 25, 26, 27, 28, 29, 30, 31, 32, 33, 34, 35, 36, 37, 38, 39, 40, 41, 42, 43, 44, 45, 46, 47, 48, 49, 50, 51, 52, 53, 54, 55, 56, 57, 58, 59, 60, 61, 62, 63, 64, 65, 66, 67, 68, 69, 70, 71, 72, 73, 74, 75, 76, 77] (by decide +kernel) (by decide +kernel)) (goodIn_sub (fun _ h => List.mem_cons_of_mem _ (List.mem_append_right _ h)) (by decide +kernel))
set_option maxRecDepth 20000 in
theorem gL_balances_X5_balances : GoodIn wsL_balances (wsV RL 39 RX5 yX5_balances wsX5_balances) := goodIn_app (goodIn_of _ (by decide +kernel)) ggL_balances_X5_balances
theorem dL_balances_0 : decode cL_balances 0 = .ok (.aload_n 0, 1) := by decide +kernel
theorem dL_balances_1 : decode cL_balances 1 = .ok (.iload_n 1, 1) := by decide +kernel
theorem dL_balances_2 : decode cL_balances 2 = .ok (.invokevirtual 39, 3) := by decide +kernel
theorem dL_balances_5 : decode cL_balances 5 = .ok (.ifCond .eq 7, 3) := by decide +kernel
theorem dL_balances_8 : decode cL_balances 8 = .ok (.iconst 1, 1) := by decide +kernel
theorem dL_balances_9 : decode cL_balances 9 = .ok (.goto 4, 3) := by decide +kernel
theorem dL_balances_12 : decode cL_balances 12 = .ok (.iconst 0, 1) := by decide +kernel
theorem dL_balances_13 : decode cL_balances 13 = .ok (.ireturn, 1) := by decide +kernel
theorem dL_balances_14 : decode cL_balances 14 = .ok (.astore_n 2, 1) := by decide +kernel
theorem dL_balances_15 : decode cL_balances 15 = .ok (.ldc 18, 2) := by decide +kernel
theorem dL_balances_17 : decode cL_balances 17 = .ok (.ireturn, 1) := by decide +kernel
set_option maxRecDepth 20000 in
theorem ggL_heat_X5_heat : GoodIn wsL_heat wsX5_heat := goodIn_ca (goodIn_ca (goodIn_ca (goodIn_r _ [11, 12, 13, 14, 15, 16, 17, 18, 19, 20, 21, 22, 10, 23, 24, 25, 26, 27, 28, 29, 30, 31, 32, 33, 34, 35, 36, 37, 38, 39, 40, 41, 42, 43, 44, 45, 46, 47, 48, 49, 50, 51, 52, 53, 54, 55, 56, 57, 58, 59, 60, 61, 62, 63, 64, 65, 66, 67, 68, 69, 70, 71, 72, 73, 74, 75, 76, 77, 78, 79, 80, 81, 82, 83, 84, 85, 86, 87, 88, 89, 90, 91, 92, 93, 94, 95, 96, 97, 98, 99, 100, 101, 102, 103, 104, 105, 106, 107, 108, 109] (by decide +kernel) (by decide +kernel)) (goodIn_sub (fun _ h => List.mem_cons_of_mem _ (List.mem_append_left _ (List.mem_append_left _ (List.mem_append_right _ h)))) (by decide +kernel))) (goodIn_sub (fun _ h => List.mem_cons_of_mem _ (List.mem_append_left _ (List.mem_append_right _ h))) (by decide +kernel))) (goodIn_sub (fun _ h => List.mem_cons_of_mem _ (List.mem_append_right _ h)) (by decide +kernel))
set_option maxRecDepth 20000 in
theorem gL_heat_X5_heat : GoodIn wsL_heat (wsV RL 43 RX5 yX5_heat wsX5_heat) := goodIn_app (goodIn_of _ (by decide +kernel)) ggL_heat_X5_heat
theorem dL_heat_0 : decode cL_heat 0 = .ok (.aload_n 0, 1) := by decide +kernel
theorem dL_heat_1 : decode cL_heat 1 = .ok (.iload_n 1, 1) := by decide +kernel
theorem dL_heat_2 : decode cL_heat 2 = .ok (.iload_n 2, 1) := by decide +kernel
theorem dL_heat_3 : decode cL_heat 3 = .ok (.iload_n 3, 1) := by decide +kernel
theorem dL_heat_4 : decode cL_heat 4 = .ok (.invokevirtual 43, 3) := by decide +kernel
theorem dL_heat_7 : decode cL_heat 7 = .ok (.ireturn, 1) := by decide +kernel
theorem dL_heat_8 : decode cL_heat 8 = .ok (.astore 4, 2) := by decide +kernel
theorem dL_heat_10 : decode cL_heat 10 = .ok (.ldc 18, 2) := by decide +kernel
theorem dL_heat_12 : decode cL_heat 12 = .ok (.ireturn, 1) := by decide +kernel
theorem dL_heat_13 : decode cL_heat 13 = .ok (.astore 4, 2) := by decide +kernel
theorem dL_heat_15 : decode cL_heat 15 = .ok (.ldc 21, 2) := by decide +kernel
theorem dL_heat_17 : decode cL_heat 17 = .ok (.ireturn, 1) := by decide +kernel
theorem dL_heat_18 : decode cL_heat 18 = .ok (.astore 4, 2) := by decide +kernel
theorem dL_heat_20 : decode cL_heat 20 = .ok (.ldc 28, 2) := by decide +kernel
theorem dL_heat_22 : decode cL_heat 22 = .ok (.ireturn, 1) := by decide +kernel
set_option maxRecDepth 20000 in
theorem ggL_cool_X5_cool : GoodIn wsL_cool wsX5_cool := goodIn_ca (goodIn_ca (goodIn_r _ [9, 10, 11, 12, 13, 8, 14, 15, 16, 17, 18, 19, 20, 21, 22, 23, 24, 25, 26, 27, 28, 29, 30, 31, 32, 33, 34, 35, 36, 37, 38, 39, 40, 41, 42, 43, 44, 45, 46, 47, 48, 49, 50, 51, 52, 53, 54, 55, 56, 57, 58, 59, 60, 61, 62, 63, 64, 65, 66, 67, 68, 69, 70, 71, 72, 73, 74, 75, 76, 77, 78, 79, 80, 81, 82, 83, 84, 85, 86] (by decide +kernel) (by decide +kernel)) (goodIn_sub (fun _ h => List.mem_cons_of_mem _ (List.mem_append_left _ (List.mem_append_right _ h))) (by decide +kernel))) (goodIn_sub (fun _ h => List.mem_cons_of_mem _ (List.mem_append_right _ h)) (by decide +kernel))
set_option maxRecDepth 20000 in
theorem gL_cool_X5_cool : GoodIn wsL_cool (wsV RL 47 RX5 yX5_cool wsX5_cool) := goodIn_app (goodIn_of _ (by decide +kernel)) ggL_cool_X5_cool
theorem dL_cool_0 : decode cL_cool 0 = .ok (.aload_n 0, 1) := by decide +kernel
theorem dL_cool_1 : decode cL_cool 1 = .ok (.iload_n 1, 1) := by decide +kernel
theorem dL_cool_2 : decode cL_cool 2 = .ok (.iload_n 2, 1) := by decide +kernel
theorem dL_cool_3 : decode cL_cool 3 = .ok (.invokevirtual 47, 3) := by decide +kernel
theorem dL_cool_6 : decode cL_cool 6 = .ok (.ireturn, 1) := by decide +kernel
theorem dL_cool_7 : decode cL_cool 7 = .ok (.astore_n 3, 1) := by decide +kernel
theorem dL_cool_8 : decode cL_cool 8 = .ok (.ldc 18, 2) := by decide +kernel
theorem dL_cool_10 : decode cL_cool 10 = .ok (.ireturn, 1) := by decide +kernel
theorem dL_cool_11 : decode cL_cool 11 = .ok (.astore_n 3, 1) := by decide +kernel
theorem dL_cool_12 : decode cL_cool 12 = .ok (.ldc 21, 2) := by decide +kernel
theorem dL_cool_14 : decode cL_cool 14 = .ok (.ireturn, 1) := by decide +kernel
set_option maxRecDepth 20000 in
theorem ggL_blow_X5_blow : GoodIn wsL_blow wsX5_blow := goodIn_ca (goodIn_ca (goodIn_ca (goodIn_r _ [11, 12, 13, 14, 15, 16, 17, 18, 19, 10, 20, 21, 22, 23, 24, 25, 26, 27, 28, 29, 30, 31, 32, 33, 34, 35, 36, 37, 38, 39, 40, 41, 42, 43, 44, 45, 46, 47, 48, 49, 50, 51, 52, 53, 54, 55, 56, 57, 58, 59, 60, 61, 62, 63, 64, 65, 66, 67, 68, 69, 70, 71, 72, 73, 74, 75, 76, 77, 78, 79, 80, 81, 82, 83, 84, 85, 86, 87, 88, 89, 90, 91, 92, 93, 94, 95, 96, 97, 98, 99, 100, 101, 102, 103, 104, 105, 106, 107, 108, 109, 110] (by decide +kernel) (by decide +kernel)) (goodIn_sub (fun _ h => List.mem_cons_of_mem _ (List.mem_append_left _ (List.mem_append_left _ (List.mem_append_right _ h)))) (by decide +kernel))) (goodIn_sub (fun _ h => List.mem_cons_of_mem _ (List.mem_append_left _ (List.mem_append_right _ h))) (by decide +kernel))) (goodIn_sub (fun _ h => List.mem_cons_of_mem _ (List.mem_append_right _ h)) (by decide +kernel))
set_option maxRecDepth 20000 in
theorem gL_blow_X5_blow : GoodIn wsL_blow (wsV RL 50 RX5 yX5_blow wsX5_blow) := goodIn_app (goodIn_of _ (by decide +kernel)) ggL_blow_X5_blow
theorem dL_blow_0 : decode cL_blow 0 = .ok (.aload_n 0, 1) := by decide +kernel
theorem dL_blow_1 : decode cL_blow 1 = .ok (.iload_n 1, 1) := by decide +kernel
theorem dL_blow_2 : decode cL_blow 2 = .ok (.iload_n 2, 1) := by decide +kernel
theorem dL_blow_3 : decode cL_blow 3 = .ok (.iload_n 3, 1) := by decide +kernel
theorem dL_blow_4 : decode cL_blow 4 = .ok (.iload 4, 2) := by decide +kernel
theorem dL_blow_6 : decode cL_blow 6 = .ok (.invokevirtual 50, 3) := by decide +kernel
theorem dL_blow_9 : decode cL_blow 9 = .ok (.ireturn, 1) := by decide +kernel
theorem dL_blow_10 : decode cL_blow 10 = .ok (.astore 5, 2) := by decide +kernel
theorem dL_blow_12 : decode cL_blow 12 = .ok (.ldc 18, 2) := by decide +kernel
theorem dL_blow_14 : decode cL_blow 14 = .ok (.ireturn, 1) := by decide +kernel
theorem dL_blow_15 : decode cL_blow 15 = .ok (.astore 5, 2) := by decide +kernel
theorem dL_blow_17 : decode cL_blow 17 = .ok (.ldc 21, 2) := by decide +kernel
theorem dL_blow_19 : decode cL_blow 19 = .ok (.ireturn, 1) := by decide +kernel
theorem dL_blow_20 : decode cL_blow 20 = .ok (.astore 5, 2) := by decide +kernel
theorem dL_blow_22 : decode cL_blow 22 = .ok (.ldc 28, 2) := by decide +kernel
theorem dL_blow_24 : decode cL_blow 24 = .ok (.ireturn, 1) := by decide +kernel
set_option maxRecDepth 20000 in
theorem ggL_cut_X5_cut : GoodIn wsL_cut wsX5_cut := goodIn_ca (goodIn_ca (goodIn_r _ [9, 10, 11, 12, 13, 14, 15, 16, 17, 18, 19, 20, 8, 21, 22, 23, 24, 25, 26, 27, 28, 29, 30, 31, 32, 33, 34, 35, 36, 37, 38, 39, 40, 41, 42, 43, 44, 45, 46, 47, 48, 49, 50, 51, 52, 53, 54, 55, 56, 57, 58, 59, 60, 61, 62, 63, 64, 65, 66, 67, 68, 69, 70, 71, 72, 73, 74, 75, 76, 77, 78, 79, 80] (by decide +kernel) (by decide +kernel)) (goodIn_sub (fun _ h => List.mem_cons_of_mem _ (List.mem_append_left _ (List.mem_append_right _ h))) (by decide +kernel))) (goodIn_sub (fun _ h => List.mem_cons_of_mem _ (List.mem_append_right _ h)) (by decide +kernel))
set_option maxRecDepth 20000 in
theorem gL_cut_X5_cut : GoodIn wsL_cut (wsV RL 54 RX5 yX5_cut wsX5_cut) := goodIn_app (goodIn_of _ (by decide +kernel)) ggL_cut_X5_cut
theorem dL_cut_0 : decode cL_cut 0 = .ok (.aload_n 0, 1) := by decide +kernel
theorem dL_cut_1 : decode cL_cut 1 = .ok (.iload_n 1, 1) := by decide +kernel
theorem dL_cut_2 : decode cL_cut 2 = .ok (.iload_n 2, 1) := by decide +kernel
theorem dL_cut_3 : decode cL_cut 3 = .ok (.iload_n 3, 1) := by decide +kernel
theorem dL_cut_4 : decode cL_cut 4 = .ok (.invokevirtual 54, 3) := by decide +kernel
theorem dL_cut_7 : decode cL_cut 7 = .ok (.ireturn, 1) := by decide +kernel
theorem dL_cut_8 : decode cL_cut 8 = .ok (.astore 4, 2) := by decide +kernel
theorem dL_cut_10 : decode cL_cut 10 = .ok (.ldc 18, 2) := by decide +kernel
theorem dL_cut_12 : decode cL_cut 12 = .ok (.ireturn, 1) := by decide +kernel
theorem dL_cut_13 : decode cL_cut 13 = .ok (.astore 4, 2) := by decide +kernel
theorem dL_cut_15 : decode cL_cut 15 = .ok (.ldc 21, 2) := by decide +kernel
theorem dL_cut_17 : decode cL_cut 17 = .ok (.ireturn, 1) := by decide +kernel
set_option maxRecDepth 20000 in
theorem ggL_die_X5_die : GoodIn wsL_die wsX5_die := goodIn_ca (goodIn_r _ [7, 8, 9, 10, 11, 12, 13, 14, 15, 16, 17, 18, 19, 20, 21, 22, 23, 24, 25, 26, 27, 28, 29, 30, 31, 32, 33, 34, 35, 36, 37, 38, 39, 40, 41, 42, 43, 44, 45, 46, 47, 48, 49, 50, 51, 52, 53, 54, 55, 56, 57, 58, 59, 60, 61, 62, 63, 64, 65, 66, 67, 68, 69, 70, 71, 72, 73, 74, 75, 76, 77, 78, 79, 80, 81, 82, 83, 84, 85, 86, 87, 88, 89, 90, 91, 92, 93, 94, 95, 96, 97, 98] (by decide +kernel) (by decide +kernel)) (goodIn_sub (fun _ h => List.mem_cons_of_mem _ (List.mem_append_right _ h)) (by decide +kernel))
set_option maxRecDepth 20000 in
theorem gL_die_X5_die : GoodIn wsL_die (wsV RL 57 RX5 yX5_die wsX5_die) := goodIn_app (goodIn_of _ (by decide +kernel)) ggL_die_X5_die
theorem dL_die_0 : decode cL_die 0 = .ok (.aload_n 0, 1) := by decide +kernel
theorem dL_die_1 : decode cL_die 1 = .ok (.invokevirtual 57, 3) := by decide +kernel
theorem dL_die_4 : decode cL_die 4 = .ok (.ireturn, 1) := by decide +kernel
theorem dL_die_5 : decode cL_die 5 = .ok (.astore_n 1, 1) := by decide +kernel
theorem dL_die_6 : decode cL_die 6 = .ok (.ldc 28, 2) := by decide +kernel
theorem dL_die_8 : decode cL_die 8 = .ok (.ireturn, 1) := by decide +kernel
set_option maxRecDepth 20000 in
theorem ggL_shape_X5_shape : GoodIn wsL_shape wsX5_shape := goodIn_ca (goodIn_ca (goodIn_r _ [9, 10, 11, 12, 13, 14, 15, 8, 16, 17, 18, 19, 20, 21, 22, 23, 24, 25, 26, 27, 28, 29, 30, 31, 32, 33, 34, 35, 36, 37, 38, 39, 40, 41, 42, 43, 44, 45, 46, 47, 48, 49, 50, 51, 52, 53, 54, 55, 56, 57, 58, 59] (by decide +kernel) (by decide +kernel)) (goodIn_sub (fun _ h => List.mem_cons_of_mem _ (List.mem_append_left _ (List.mem_append_right _ h))) (by decide +kernel))) (goodIn_sub (fun _ h => List.mem_cons_of_mem _ (List.mem_append_right _ h)) (by decide +kernel))
set_option maxRecDepth 20000 in
theorem gL_shape_X5_shape : GoodIn wsL_shape (wsV RL 61 RX5 yX5_shape wsX5_shape) := goodIn_app (goodIn_of _ (by decide +kernel)) ggL_shape_X5_shape
theorem dL_shape_0 : decode cL_shape 0 = .ok (.aload_n 0, 1) := by decide +kernel
theorem dL_shape_1 : decode cL_shape 1 = .ok (.iload_n 1, 1) := by decide +kernel
theorem dL_shape_2 : decode cL_shape 2 = .ok (.iload_n 2, 1) := by decide +kernel
theorem dL_shape_3 : decode cL_shape 3 = .ok (.iload_n 3, 1) := by decide +kernel
theorem dL_shape_4 : decode cL_shape 4 = .ok (.invokevirtual 61, 3) := by decide +kernel
theorem dL_shape_7 : decode cL_shape 7 = .ok (.ireturn, 1) := by decide +kernel
theorem dL_shape_8 : decode cL_shape 8 = .ok (.astore 4, 2) := by decide +kernel
theorem dL_shape_10 : decode cL_shape 10 = .ok (.ldc 18, 2) := by decide +kernel
theorem dL_shape_12 : decode cL_shape 12 = .ok (.ireturn, 1) := by decide +kernel
theorem dL_shape_13 : decode cL_shape 13 = .ok (.astore 4, 2) := by decide +kernel
theorem dL_shape_15 : decode cL_shape 15 = .ok (.ldc 21, 2) := by decide +kernel
theorem dL_shape_17 : decode cL_shape 17 = .ok (.ireturn, 1) := by decide +kernel
set_option maxRecDepth 20000 in
theorem ggL_sink_X5_sink : GoodIn wsL_sink wsX5_sink := goodIn_ca (goodIn_r _ [7, 8, 9, 10, 11, 6, 12, 13, 14, 15, 16, 17, 18, 19, 20, 21, 22, 23, 24, 25, 26, 27, 28, 29, 30, 31, 32, 33, 34, 35, 36, 37, 38, 39, 40, 41, 42, 43, 44, 45, 46, 47, 48, 49, 50, 51, 52] (by decide +kernel) (by decide +kernel)) (goodIn_sub (fun _ h => List.mem_cons_of_mem _ (List.mem_append_right _ h)) (by decide +kernel))
set_option maxRecDepth 20000 in
theorem gL_sink_X5_sink : GoodIn wsL_sink (wsV RL 64 RX5 yX5_sink wsX5_sink) := goodIn_app (goodIn_of _ (by decide +kernel)) ggL_sink_X5_sink
theorem dL_sink_0 : decode cL_sink 0 = .ok (.aload_n 0, 1) := by decide +kernel
theorem dL_sink_1 : decode cL_sink 1 = .ok (.iload_n 1, 1) := by decide +kernel
theorem dL_sink_2 : decode cL_sink 2 = .ok (.invokevirtual 64, 3) := by decide +kernel
theorem dL_sink_5 : decode cL_sink 5 = .ok (.ireturn, 1) := by decide +kernel
theorem dL_sink_6 : decode cL_sink 6 = .ok (.astore_n 2, 1) := by decide +kernel
theorem dL_sink_7 : decode cL_sink 7 = .ok (.ldc 18, 2) := by decide +kernel
theorem dL_sink_9 : decode cL_sink 9 = .ok (.ireturn, 1) := by decide +kernel
set_option maxRecDepth 20000 in
theorem ggL_press_X5_press : GoodIn wsL_press wsX5_press := goodIn_ca (goodIn_ca (goodIn_ca (goodIn_r _ [11, 12, 13, 14, 15, 16, 17, 18, 19, 20, 10, 21, 22, 23, 24, 25, 26, 27, 28, 29, 30, 31, 32, 33, 34, 35, 36, 37, 38, 39, 40, 41, 42, 43, 44, 45, 46, 47, 48, 49, 50, 51, 52, 53, 54, 55, 56, 57, 58, 59, 60, 61, 62, 63, 64, 65, 66, 67, 68, 69, 70, 71, 72, 73, 74, 75, 76, 77, 78, 79, 80, 81, 82, 83, 84, 85, 86, 87, 88, 89, 90, 91, 92, 93, 94, 95, 96, 97, 98, 99, 100, 101, 102, 103, 104, 105, 106, 107, 108, 109, 110, 111, 112, 113, 114, 115, 116, 117, 118, 119, 120, 121, 122, 123, 124, 125, 126, 127, 128, 129, 130, 131, 132, 133, 134] (by decide +kernel) (by decide +kernel)) (goodIn_sub (fun _ h => List.mem_cons_of_mem _ (List.mem_append_left _ (List.mem_append_left _ (List.mem_append_right _ h)))) (by decide +kernel))) (goodIn_sub (fun _ h => List.mem_cons_of_mem _ (List.mem_append_left _ (List.mem_append_right _ h))) (by decide +kernel))) (goodIn_sub (fun _ h => List.mem_cons_of_mem _ (List.mem_append_right _ h)) (by decide +kernel))
set_option maxRecDepth 20000 in
theorem gL_press_X5_press : GoodIn wsL_press (wsV RL 67 RX5 yX5_press wsX5_press) := goodIn_app (goodIn_of _ (by decide +kernel)) ggL_press_X5_press
theorem dL_press_0 : decode cL_press 0 = .ok (.aload_n 0, 1) := by decide +kernel
theorem dL_press_1 : decode cL_press 1 = .ok (.iload_n 1, 1) := by decide +kernel
theorem dL_press_2 : decode cL_press 2 = .ok (.iload_n 2, 1) := by decide +kernel
theorem dL_press_3 : decode cL_press 3 = .ok (.iload_n 3, 1) := by decide +kernel
theorem dL_press_4 : decode cL_press 4 = .ok (.invokevirtual 67, 3) := by decide +kernel
theorem dL_press_7 : decode cL_press 7 = .ok (.ireturn, 1) := by decide +kernel
theorem dL_press_8 : decode cL_press 8 = .ok (.astore 4, 2) := by decide +kernel
theorem dL_press_10 : decode cL_press 10 = .ok (.ldc 18, 2) := by decide +kernel
theorem dL_press_12 : decode cL_press 12 = .ok (.ireturn, 1) := by decide +kernel
theorem dL_press_13 : decode cL_press 13 = .ok (.astore 4, 2) := by decide +kernel
theorem dL_press_15 : decode cL_press 15 = .ok (.ldc 21, 2) := by decide +kernel
theorem dL_press_17 : decode cL_press 17 = .ok (.ireturn, 1) := by decide +kernel
theorem dL_press_18 : decode cL_press 18 = .ok (.astore 4, 2) := by decide +kernel
theorem dL_press_20 : decode cL_press 20 = .ok (.ldc 28, 2) := by decide +kernel
theorem dL_press_22 : decode cL_press 22 = .ok (.ireturn, 1) := by decide +kernel
set_option maxRecDepth 20000 in
theorem ggL_quench_X5_quench : GoodIn wsL_quench wsX5_quench := goodIn_ca (goodIn_ca (goodIn_r _ [9, 10, 11, 12, 13, 14, 15, 16, 17, 18, 19, 20, 21, 22, 23, 24, 25, 8, 26, 27, 28, 29, 30, 31, 32, 33, 34, 35, 36, 37, 38, 39, 40, 41, 42, 43, 44, 45, 46, 47, 48, 49, 50, 51, 52, 53, 54, 55, 56, 57, 58, 59, 60, 61, 62, 63, 64, 65, 66, 67, 68, 69, 70, 71, 72, 73, 74, 75, 76, 77, 78, 79, 80, 81, 82, 83, 84, 85, 86, 87, 88, 89, 90, 91, 92, 93, 94, 95, 96, 97, 98, 99, 100, 101, 102, 103, 104, 105, 106, 107, 108, 109, 110] (by decide +kernel) (by decide +kernel)) (goodIn_sub (fun _ h => List.mem_cons_of_mem _ (List.mem_append_left _ (List.mem_append_right _ h))) (by decide +kernel))) (goodIn_sub (fun _ h => List.mem_cons_of_mem _ (List.mem_append_right _ h)) (by decide +kernel))
set_option maxRecDepth 20000 in
theorem gL_quench_X5_quench : GoodIn wsL_quench (wsV RL 70 RX5 yX5_quench wsX5_quench) := goodIn_app (goodIn_of _ (by decide +kernel)) ggL_quench_X5_quench
theorem dL_quench_0 : decode cL_quench 0 = .ok (.aload_n 0, 1) := by decide +kernel
theorem dL_quench_1 : decode cL_quench 1 = .ok (.iload_n 1, 1) := by decide +kernel
theorem dL_quench_2 : decode cL_quench 2 = .ok (.iload_n 2, 1) := by decide +kernel
theorem dL_quench_3 : decode cL_quench 3 = .ok (.invokevirtual 70, 3) := by decide +kernel
theorem dL_quench_6 : decode cL_quench 6 = .ok (.ireturn, 1) := by decide +kernel
theorem dL_quench_7 : decode cL_quench 7 = .ok (.astore_n 3, 1) := by decide +kernel
theorem dL_quench_8 : decode cL_quench 8 = .ok (.ldc 21, 2) := by decide +kernel
theorem dL_quench_10 : decode cL_quench 10 = .ok (.ireturn, 1) := by decide +kernel
theorem dL_quench_11 : decode cL_quench 11 = .ok (.astore_n 3, 1) := by decide +kernel
theorem dL_quench_12 : decode cL_quench 12 = .ok (.ldc 28, 2) := by decide +kernel
theorem dL_quench_14 : decode cL_quench 14 = .ok (.ireturn, 1) := by decide +kernel
set_option maxRecDepth 20000 in
theorem ggL_temper_X5_temper : GoodIn wsL_temper wsX5_temper := goodIn_ca (goodIn_ca (goodIn_ca (goodIn_r _ [11, 12, 13, 14, 15, 16, 17, 18, 19, 20, 21, 22, 23, 24, 10, 25, 26, 27, 28, 29, 30, 31, 32, 33, 34, 35, 36, 37, 38, 39, 40, 41, 42, 43, 44, 45, 46, 47, 48, 49, 50, 51, 52, 53, 54, 55, 56, 57, 58, 59, 60, 61, 62, 63, 64, 65, 66, 67, 68, 69, 70, 71, 72, 73, 74, 75, 76, 77, 78, 79, 80, 81, 82, 83, 84, 85, 86, 87, 88, 89, 90, 91, 92, 93, 94, 95, 96, 97, 98, 99, 100, 101, 102] (by decide +kernel) (by decide +kernel)) (goodIn_sub (fun _ h => List.mem_cons_of_mem _ (List.mem_append_left _ (List.mem_append_left _ (List.mem_append_right _ h)))) (by decide +kernel))) (goodIn_sub (fun _ h => List.mem_cons_of_mem _ (List.mem_append_left _ (List.mem_append_right _ h))) (by decide +kernel))) (goodIn_sub (fun _ h => List.mem_cons_of_mem _ (List.mem_append_right _ h)) (by decide +kernel))
set_option maxRecDepth 20000 in
theorem gL_temper_X5_temper : GoodIn wsL_temper (wsV RL 73 RX5 yX5_temper wsX5_temper) := goodIn_app (goodIn_of _ (by decide +kernel)) ggL_temper_X5_temper
theorem dL_temper_0 : decode cL_temper 0 = .ok (.aload_n 0, 1) := by decide +kernel
theorem dL_temper_1 : decode cL_temper 1 = .ok (.iload_n 1, 1) := by decide +kernel
theorem dL_temper_2 : decode cL_temper 2 = .ok (.iload_n 2, 1) := by decide +kernel
theorem dL_temper_3 : decode cL_temper 3 = .ok (.invokevirtual 73, 3) := by decide +kernel
theorem dL_temper_6 : decode cL_temper 6 = .ok (.ireturn, 1) := by decide +kernel
theorem dL_temper_7 : decode cL_temper 7 = .ok (.astore_n 3, 1) := by decide +kernel
theorem dL_temper_8 : decode cL_temper 8 = .ok (.ldc 18, 2) := by decide +kernel
theorem dL_temper_10 : decode cL_temper 10 = .ok (.ireturn, 1) := by decide +kernel
theorem dL_temper_11 : decode cL_temper 11 = .ok (.astore_n 3, 1) := by decide +kernel
theorem dL_temper_12 : decode cL_temper 12 = .ok (.ldc 21, 2) := by decide +kernel
theorem dL_temper_14 : decode cL_temper 14 = .ok (.ireturn, 1) := by decide +kernel
theorem dL_temper_15 : decode cL_temper 15 = .ok (.astore_n 3, 1) := by decide +kernel
theorem dL_temper_16 : decode cL_temper 16 = .ok (.ldc 28, 2) := by decide +kernel
theorem dL_temper_18 : decode cL_temper 18 = .ok (.ireturn, 1) := by decide +kernel
set_option maxRecDepth 20000 in
theorem ggL_hardness_X5_hardness : GoodIn wsL_hardness wsX5_hardness := goodIn_ca (goodIn_r _ [7, 8, 9, 10, 6, 11, 12, 13, 14, 15, 16, 17, 18, 19, 20, 21, 22, 23, 24, 25, 26, 27, 28, 29, 30, 31, 32, 33, 34, 35, 36, 37, 38, 39, 40, 41, 42, 43, 44, 45, 46, 47, 48, 49, 50, 51, 52, 53, 54, 55, 56, 57, 58, 59, 60, 61, 62, 63, 64, 65, 66, 67, 68, 69, 70, 71, 72, 73, 74, 75, 76, 77, 78, 79, 80, 81, 82] (by decide +kernel) (by decide +kernel)) (goodIn_sub (fun _ h => List.mem_cons_of_mem _ (List.mem_append_right _ h)) (by decide +kernel))
set_option maxRecDepth 20000 in
theorem gL_hardness_X5_hardness : GoodIn wsL_hardness (wsV RL 76 RX5 yX5_hardness wsX5_hardness) := goodIn_app (goodIn_of _ (by decide +kernel)) ggL_hardness_X5_hardness
theorem dL_hardness_0 : decode cL_hardness 0 = .ok (.aload_n 0, 1) := by decide +kernel
theorem dL_hardness_1 : decode cL_hardness 1 = .ok (.iload_n 1, 1) := by decide +kernel
theorem dL_hardness_2 : decode cL_hardness 2 = .ok (.iload_n 2, 1) := by decide +kernel
theorem dL_hardness_3 : decode cL_hardness 3 = .ok (.invokevirtual 76, 3) := by decide +kernel
theorem dL_hardness_6 : decode cL_hardness 6 = .ok (.ireturn, 1) := by decide +kernel
theorem dL_hardness_7 : decode cL_hardness 7 = .ok (.astore_n 3, 1) := by decide +kernel
theorem dL_hardness_8 : decode cL_hardness 8 = .ok (.ldc 18, 2) := by decide +kernel
theorem dL_hardness_10 : decode cL_hardness 10 = .ok (.ireturn, 1) := by decide +kernel
set_option maxRecDepth 20000 in
theorem ggL_test_X5_test : GoodIn wsL_test wsX5_test := goodIn_ca (goodIn_ca (goodIn_r _ [9, 10, 11, 12, 13, 14, 15, 16, 17, 18, 8, 19, 20, 21, 22, 23, 24, 25, 26, 27, 28, 29, 30, 31, 32, 33, 34, 35, 36, 37, 38, 39, 40, 41, 42, 43, 44, 45, 46, 47, 48, 49, 50, 51, 52, 53, 54, 55, 56, 57, 58, 59, 60, 61, 62, 63, 64, 65, 66, 67, 68, 69, 70, 71, 72, 73, 74, 75, 76, 77, 78, 79, 80, 81, 82, 83, 84, 85, 86, 87, 88, 89, 90, 91, 92, 93, 94, 95, 96, 97, 98] (by decide +kernel) (by decide +kernel)) (goodIn_sub (fun _ h => List.mem_cons_of_mem _ (List.mem_append_left _ (List.mem_append_right _ h))) (by decide +kernel))) (goodIn_sub (fun _ h => List.mem_cons_of_mem _ (List.mem_append_right _ h)) (by decide +kernel))
set_option maxRecDepth 20000 in
theorem gL_test_X5_test : GoodIn wsL_test (wsV RL 79 RX5 yX5_test wsX5_test) := goodIn_app (goodIn_of _ (by decide +kernel)) ggL_test_X5_test
theorem dL_test_0 : decode cL_test 0 = .ok (.aload_n 0, 1) := by decide +kernel
