theorem dL_test_1 : decode cL_test 1 = .ok (.iload_n 1, 1) := by decide +kernel
theorem dL_test_2 : decode cL_test 2 = .ok (.invokevirtual 79, 3) := by decide +kernel
theorem dL_test_5 : decode cL_test 5 = .ok (.ireturn, 1) := by decide +kernel
theorem dL_test_6 : decode cL_test 6 = .ok (.astore_n 2, 1) := by decide +kernel
theorem dL_test_7 : decode cL_test 7 = .ok (.ldc 18, 2) := by decide +kernel
theorem dL_test_9 : decode cL_test 9 = .ok (.ireturn, 1) := by decide +kernel
theorem dL_test_10 : decode cL_test 10 = .ok (.astore_n 2, 1) := by decide +kernel
theorem dL_test_11 : decode cL_test 11 = .ok (.ldc 28, 2) := by decide +kernel
theorem dL_test_13 : decode cL_test 13 = .ok (.ireturn, 1) := by decide +kernel
set_option maxRecDepth 20000 in
theorem ggL_paper_X5_paper : GoodIn wsL_paper wsX5_paper := goodIn_ca (goodIn_ca (goodIn_r _ [9, 10, 11, 12, 13, 14, 15, 16, 17, 18, 19, 20, 8, 21, 22, 23, 24, 25, 26, 27, 28, 29, 30, 31, 32, 33, 34, 35, 36, 37, 38, 39, 40, 41, 42, 43, 44, 45, 46, 47, 48, 49, 50, 51, 52, 53, 54, 55, 56, 57, 58, 59, 60, 61, 62, 63, 64, 65, 66, 67, 68, 69, 70, 71, 72, 73, 74, 75, 76, 77, 78, 79, 80, 81, 82, 83, 84, 85, 86, 87, 88, 89, 90, 91, 92, 93, 94, 95, 96, 97, 98, 99, 100] (by decide +kernel) (by decide +kernel)) (goodIn_sub (fun _ h => List.mem_cons_of_mem _ (List.mem_append_left _ (List.mem_append_right _ h))) (by decide +kernel))) (goodIn_sub (fun _ h => List.mem_cons_of_mem _ (List.mem_append_right _ h)) (by decide +kernel))
set_option maxRecDepth 20000 in
theorem gL_paper_X5_paper : GoodIn wsL_paper (wsV RL 82 RX5 yX5_paper wsX5_paper) := goodIn_app (goodIn_of _ (by decide +kernel)) ggL_paper_X5_paper
theorem dL_paper_0 : decode cL_paper 0 = .ok (.aload_n 0, 1) := by decide +kernel
theorem dL_paper_1 : decode cL_paper 1 = .ok (.iload_n 1, 1) := by decide +kernel
theorem dL_paper_2 : decode cL_paper 2 = .ok (.iload_n 2, 1) := by decide +kernel
theorem dL_paper_3 : decode cL_paper 3 = .ok (.invokevirtual 82, 3) := by decide +kernel
theorem dL_paper_6 : decode cL_paper 6 = .ok (.ireturn, 1) := by decide +kernel
theorem dL_paper_7 : decode cL_paper 7 = .ok (.astore_n 3, 1) := by decide +kernel
theorem dL_paper_8 : decode cL_paper 8 = .ok (.ldc 18, 2) := by decide +kernel
theorem dL_paper_10 : decode cL_paper 10 = .ok (.ireturn, 1) := by decide +kernel
theorem dL_paper_11 : decode cL_paper 11 = .ok (.astore_n 3, 1) := by decide +kernel
theorem dL_paper_12 : decode cL_paper 12 = .ok (.ldc 21, 2) := by decide +kernel
theorem dL_paper_14 : decode cL_paper 14 = .ok (.ireturn, 1) := by decide +kernel
set_option maxRecDepth 20000 in
theorem ggL_layer_X5_layer : GoodIn wsL_layer wsX5_layer := goodIn_ca (goodIn_ca (goodIn_ca (goodIn_r _ [11, 12, 13, 14, 15, 16, 17, 18, 19, 20, 10, 21, 22, 23, 24, 25, 26, 27, 28, 29, 30, 31, 32, 33, 34, 35, 36, 37, 38, 39, 40, 41, 42, 43, 44, 45, 46, 47, 48, 49, 50, 51, 52, 53, 54, 55, 56, 57, 58, 59, 60, 61, 62, 63, 64, 65, 66, 67, 68, 69, 70, 71, 72, 73, 74, 75, 76, 77, 78, 79, 80, 81, 82, 83, 84] (by decide +kernel) (by decide +kernel)) (goodIn_sub (fun _ h => List.mem_cons_of_mem _ (List.mem_append_left _ (List.mem_append_left _ (List.mem_append_right _ h)))) (by decide +kernel))) (goodIn_sub (fun _ h => List.mem_cons_of_mem _ (List.mem_append_left _ (List.mem_append_right _ h))) (by decide +kernel))) (goodIn_sub (fun _ h => List.mem_cons_of_mem _ (List.mem_append_right _ h)) (by decide +kernel))
set_option maxRecDepth 20000 in
theorem gL_layer_X5_layer : GoodIn wsL_layer (wsV RL 85 RX5 yX5_layer wsX5_layer) := goodIn_app (goodIn_of _ (by decide +kernel)) ggL_layer_X5_layer
theorem dL_layer_0 : decode cL_layer 0 = .ok (.aload_n 0, 1) := by decide +kernel
theorem dL_layer_1 : decode cL_layer 1 = .ok (.iload_n 1, 1) := by decide +kernel
theorem dL_layer_2 : decode cL_layer 2 = .ok (.iload_n 2, 1) := by decide +kernel
theorem dL_layer_3 : decode cL_layer 3 = .ok (.invokevirtual 85, 3) := by decide +kernel
theorem dL_layer_6 : decode cL_layer 6 = .ok (.ireturn, 1) := by decide +kernel
theorem dL_layer_7 : decode cL_layer 7 = .ok (.astore_n 3, 1) := by decide +kernel
theorem dL_layer_8 : decode cL_layer 8 = .ok (.ldc 18, 2) := by decide +kernel
theorem dL_layer_10 : decode cL_layer 10 = .ok (.ireturn, 1) := by decide +kernel
theorem dL_layer_11 : decode cL_layer 11 = .ok (.astore_n 3, 1) := by decide +kernel
theorem dL_layer_12 : decode cL_layer 12 = .ok (.ldc 21, 2) := by decide +kernel
theorem dL_layer_14 : decode cL_layer 14 = .ok (.ireturn, 1) := by decide +kernel
theorem dL_layer_15 : decode cL_layer 15 = .ok (.astore_n 3, 1) := by decide +kernel
theorem dL_layer_16 : decode cL_layer 16 = .ok (.ldc 28, 2) := by decide +kernel
theorem dL_layer_18 : decode cL_layer 18 = .ok (.ireturn, 1) := by decide +kernel
set_option maxRecDepth 20000 in
theorem ggL_fewest_X5_fewest : GoodIn wsL_fewest wsX5_fewest := goodIn_ca (goodIn_ca (goodIn_r _ [9, 10, 11, 12, 13, 14, 15, 8, 16, 17, 18, 19, 20, 21, 22, 23, 24, 25, 26, 27, 28, 29, 30, 31, 32, 33, 34, 35, 36, 37, 38, 39, 40, 41, 42, 43, 44, 45, 46, 47, 48, 49, 50, 51, 52, 53, 54, 55, 56, 57, 58, 59, 60, 61, 62, 63, 64, 65, 66, 67, 68, 69, 70, 71, 72, 73, 74, 75, 76, 77, 78, 79, 80, 81, 82, 83, 84, 85, 86, 87, 88, 89, 90, 91, 92, 93, 94, 95, 96, 97, 98] (by decide +kernel) (by decide +kernel)) (goodIn_sub (fun _ h => List.mem_cons_of_mem _ (List.mem_append_left _ (List.mem_append_right _ h))) (by decide +kernel))) (goodIn_sub (fun _ h => List.mem_cons_of_mem _ (List.mem_append_right _ h)) (by decide +kernel))
set_option maxRecDepth 20000 in
theorem gL_fewest_X5_fewest : GoodIn wsL_fewest (wsV RL 88 RX5 yX5_fewest wsX5_fewest) := goodIn_app (goodIn_of _ (by decide +kernel)) ggL_fewest_X5_fewest
theorem dL_fewest_0 : decode cL_fewest 0 = .ok (.aload_n 0, 1) := by decide +kernel
theorem dL_fewest_1 : decode cL_fewest 1 = .ok (.iload_n 1, 1) := by decide +kernel
theorem dL_fewest_2 : decode cL_fewest 2 = .ok (.iload_n 2, 1) := by decide +kernel
theorem dL_fewest_3 : decode cL_fewest 3 = .ok (.invokevirtual 88, 3) := by decide +kernel
theorem dL_fewest_6 : decode cL_fewest 6 = .ok (.ireturn, 1) := by decide +kernel
theorem dL_fewest_7 : decode cL_fewest 7 = .ok (.astore_n 3, 1) := by decide +kernel
theorem dL_fewest_8 : decode cL_fewest 8 = .ok (.ldc 18, 2) := by decide +kernel
theorem dL_fewest_10 : decode cL_fewest 10 = .ok (.ireturn, 1) := by decide +kernel
theorem dL_fewest_11 : decode cL_fewest 11 = .ok (.astore_n 3, 1) := by decide +kernel
theorem dL_fewest_12 : decode cL_fewest 12 = .ok (.ldc 21, 2) := by decide +kernel
theorem dL_fewest_14 : decode cL_fewest 14 = .ok (.ireturn, 1) := by decide +kernel
set_option maxRecDepth 20000 in
theorem ggL_first_X5_first : GoodIn wsL_first wsX5_first := goodIn_ca (goodIn_ca (goodIn_r _ [9, 10, 11, 12, 13, 14, 15, 8, 16, 17, 18, 19, 20, 21, 22, 23, 24, 25, 26, 27, 28, 29, 30, 31, 32, 33, 34, 35, 36, 37, 38, 39, 40, 41, 42, 43, 44, 45, 46, 47, 48, 49, 50, 51, 52, 53, 54, 55, 56, 57, 58, 59, 60, 61, 62, 63, 64, 65, 66, 67, 68, 69, 70, 71, 72, 73, 74, 75, 76, 77, 78, 79, 80, 81, 82, 83, 84, 85, 86, 87, 88, 89, 90, 91, 92, 93, 94, 95, 96, 97, 98] (by decide +kernel) (by decide +kernel)) (goodIn_sub (fun _ h => List.mem_cons_of_mem _ (List.mem_append_left _ (List.mem_append_right _ h))) (by decide +kernel))) (goodIn_sub (fun _ h => List.mem_cons_of_mem _ (List.mem_append_right _ h)) (by decide +kernel))
set_option maxRecDepth 20000 in
theorem gL_first_X5_first : GoodIn wsL_first (wsV RL 91 RX5 yX5_first wsX5_first) := goodIn_app (goodIn_of _ (by decide +kernel)) ggL_first_X5_first
theorem dL_first_0 : decode cL_first 0 = .ok (.aload_n 0, 1) := by decide +kernel
theorem dL_first_1 : decode cL_first 1 = .ok (.iload_n 1, 1) := by decide +kernel
theorem dL_first_2 : decode cL_first 2 = .ok (.iload_n 2, 1) := by decide +kernel
theorem dL_first_3 : decode cL_first 3 = .ok (.invokevirtual 91, 3) := by decide +kernel
theorem dL_first_6 : decode cL_first 6 = .ok (.ireturn, 1) := by decide +kernel
theorem dL_first_7 : decode cL_first 7 = .ok (.astore_n 3, 1) := by decide +kernel
theorem dL_first_8 : decode cL_first 8 = .ok (.ldc 18, 2) := by decide +kernel
theorem dL_first_10 : decode cL_first 10 = .ok (.ireturn, 1) := by decide +kernel
theorem dL_first_11 : decode cL_first 11 = .ok (.astore_n 3, 1) := by decide +kernel
theorem dL_first_12 : decode cL_first 12 = .ok (.ldc 21, 2) := by decide +kernel
theorem dL_first_14 : decode cL_first 14 = .ok (.ireturn, 1) := by decide +kernel
set_option maxRecDepth 20000 in
theorem ggL_job_X5_job : GoodIn wsL_job wsX5_job := goodIn_ca (goodIn_ca (goodIn_r _ [9, 10, 11, 12, 13, 14, 15, 16, 17, 18, 19, 20, 21, 22, 23, 24, 25, 26, 27, 28, 29, 30, 31, 32, 33] (by decide +kernel) (by decide +kernel)) (goodIn_sub (fun _ h => List.mem_cons_of_mem _ (List.mem_append_left _ (List.mem_append_right _ h))) (by decide +kernel))) (goodIn_sub (fun _ h => List.mem_cons_of_mem _ (List.mem_append_right _ h)) (by decide +kernel))
set_option maxRecDepth 20000 in
theorem gL_job_X5_job : GoodIn wsL_job (wsV RL 94 RX5 yX5_job wsX5_job) := goodIn_app (goodIn_of _ (by decide +kernel)) ggL_job_X5_job
theorem dL_job_0 : decode cL_job 0 = .ok (.aload_n 0, 1) := by decide +kernel
theorem dL_job_1 : decode cL_job 1 = .ok (.iload_n 1, 1) := by decide +kernel
theorem dL_job_2 : decode cL_job 2 = .ok (.invokevirtual 94, 3) := by decide +kernel
theorem dL_job_5 : decode cL_job 5 = .ok (.ireturn, 1) := by decide +kernel
theorem dL_job_6 : decode cL_job 6 = .ok (.astore_n 2, 1) := by decide +kernel
theorem dL_job_7 : decode cL_job 7 = .ok (.ldc 21, 2) := by decide +kernel
theorem dL_job_9 : decode cL_job 9 = .ok (.ireturn, 1) := by decide +kernel
theorem dL_job_10 : decode cL_job 10 = .ok (.astore_n 2, 1) := by decide +kernel
theorem dL_job_11 : decode cL_job 11 = .ok (.ldc 28, 2) := by decide +kernel
theorem dL_job_13 : decode cL_job 13 = .ok (.ireturn, 1) := by decide +kernel
set_option maxRecDepth 20000 in
theorem ggL_planned_X5_planned : GoodIn wsL_planned wsX5_planned := goodIn_ca (goodIn_r _ [7, 8, 9, 10, 11, 12, 13, 14, 15, 16, 17, 18, 19, 20, 21, 22, 23, 24, 25, 26, 27, 28, 29, 30, 31, 32, 33, 34, 35, 36, 37, 38, 39, 40, 41] (by decide +kernel) (by decide +kernel)) (goodIn_sub (fun _ h => List.mem_cons_of_mem _ (List.mem_append_right _ h)) (by decide +kernel))
set_option maxRecDepth 20000 in
theorem gL_planned_X5_planned : GoodIn wsL_planned (wsV RL 97 RX5 yX5_planned wsX5_planned) := goodIn_app (goodIn_of _ (by decide +kernel)) ggL_planned_X5_planned
theorem dL_planned_0 : decode cL_planned 0 = .ok (.aload_n 0, 1) := by decide +kernel
theorem dL_planned_1 : decode cL_planned 1 = .ok (.iload_n 1, 1) := by decide +kernel
theorem dL_planned_2 : decode cL_planned 2 = .ok (.invokevirtual 97, 3) := by decide +kernel
theorem dL_planned_5 : decode cL_planned 5 = .ok (.ireturn, 1) := by decide +kernel
theorem dL_planned_6 : decode cL_planned 6 = .ok (.astore_n 2, 1) := by decide +kernel
theorem dL_planned_7 : decode cL_planned 7 = .ok (.ldc 21, 2) := by decide +kernel
theorem dL_planned_9 : decode cL_planned 9 = .ok (.ireturn, 1) := by decide +kernel
theorem dL_ones_0 : decode cL_ones 0 = .ok (.iconst 0, 1) := by decide +kernel
theorem dL_ones_1 : decode cL_ones 1 = .ok (.istore_n 1, 1) := by decide +kernel
theorem dL_ones_2 : decode cL_ones 2 = .ok (.iconst 0, 1) := by decide +kernel
theorem dL_ones_3 : decode cL_ones 3 = .ok (.istore_n 2, 1) := by decide +kernel
theorem dL_ones_4 : decode cL_ones 4 = .ok (.iload_n 2, 1) := by decide +kernel
theorem dL_ones_5 : decode cL_ones 5 = .ok (.bipush 8, 2) := by decide +kernel
theorem dL_ones_7 : decode cL_ones 7 = .ok (.if_icmp .ge 17, 3) := by decide +kernel
theorem dL_ones_10 : decode cL_ones 10 = .ok (.iload_n 1, 1) := by decide +kernel
theorem dL_ones_11 : decode cL_ones 11 = .ok (.iload_n 0, 1) := by decide +kernel
theorem dL_ones_12 : decode cL_ones 12 = .ok (.iload_n 2, 1) := by decide +kernel
theorem dL_ones_13 : decode cL_ones 13 = .ok (.ishr, 1) := by decide +kernel
theorem dL_ones_14 : decode cL_ones 14 = .ok (.iconst 1, 1) := by decide +kernel
theorem dL_ones_15 : decode cL_ones 15 = .ok (.iand, 1) := by decide +kernel
theorem dL_ones_16 : decode cL_ones 16 = .ok (.iadd, 1) := by decide +kernel
theorem dL_ones_17 : decode cL_ones 17 = .ok (.istore_n 1, 1) := by decide +kernel
theorem dL_ones_18 : decode cL_ones 18 = .ok (.iinc 2 1, 3) := by decide +kernel
theorem dL_ones_21 : decode cL_ones 21 = .ok (.goto (-17), 3) := by decide +kernel
theorem dL_ones_24 : decode cL_ones 24 = .ok (.iload_n 1, 1) := by decide +kernel
theorem dL_ones_25 : decode cL_ones 25 = .ok (.ireturn, 1) := by decide +kernel
set_option maxRecDepth 20000 in
theorem ggL_isBillet_L_billetIs : GoodIn wsL_isBillet wsL_billetIs := goodIn_ca (goodIn_ca (goodIn_r _ [6, 7, 8, 2, 1, 9, 10, 11, 12, 13, 14, 15, 16, 17, 18, 19, 20, 21, 22, 23, 24, 25, 26, 27, 28, 29, 30, 31, 32, 33, 34, 35, 36, 37, 38, 39, 40, 41, 42, 43, 44, 45, 46, 47, 48, 49, 50, 51, 52, 53, 54, 55, 56, 57, 58, 59, 60, 126, 127, 128, 129, 130, 131, 132, 133, 134, 135, 136, 137, 138, 139, 140, 141, 142, 143, 144, 145, 146, 147, 148, 149, 150, 151, 152, 153, 154] (by decide +kernel) (by decide +kernel)) (goodIn_sub (fun _ h => List.mem_cons_of_mem _ (List.mem_append_left _ (List.mem_append_right _ h))) (by decide +kernel))) (goodIn_sub (fun _ h => List.mem_cons_of_mem _ (List.mem_append_right _ h)) (by decide +kernel))
set_option maxRecDepth 20000 in
theorem gL_isBillet_L_billetIs : GoodIn wsL_isBillet (va_wsS RL 100 yL_billetIs wsL_billetIs) := goodIn_app (goodIn_of _ (by decide +kernel)) ggL_isBillet_L_billetIs
set_option maxRecDepth 20000 in
theorem ggL_isBillet_L_balances : GoodIn wsL_isBillet wsL_balances := goodIn_ca (goodIn_r _ [63, 7, 2, 64, 65, 66, 12, 67, 68, 69, 70, 71, 24, 25, 26, 27, 28, 29, 30, 31, 32, 33, 34, 35, 36, 37, 38, 39, 40, 41, 42, 43, 44, 45, 46, 47, 48, 49, 50, 51, 52, 53, 54, 55, 56, 57, 58, 59, 60, 126, 127, 128, 129, 130, 131, 132, 133, 134, 135, 136, 137, 138, 139, 140, 141, 142, 143, 144, 145, 146, 147, 148, 149, 150, 151, 152, 153, 154] (by decide +kernel) (by decide +kernel)) (goodIn_sub (fun _ h => List.mem_cons_of_mem _ (List.mem_append_right _ h)) (by decide +kernel))
set_option maxRecDepth 20000 in
theorem gL_isBillet_L_balances : GoodIn wsL_isBillet (va_wsS RL 105 yL_balances wsL_balances) := goodIn_app (goodIn_of _ (by decide +kernel)) ggL_isBillet_L_balances
set_option maxRecDepth 20000 in
theorem ggL_isBillet_L_area : GoodIn wsL_isBillet wsL_area := goodIn_ca (goodIn_r _ [74, 7, 2, 75, 76, 77, 12, 78, 79, 24, 25, 26, 27, 28, 29, 30, 31, 32, 33, 34, 35, 36, 37, 38, 39, 40, 41, 42, 43, 44, 45, 46, 47, 48, 49, 50, 51, 52, 53, 54, 80, 81, 82, 126, 127, 128, 129, 130, 131, 132, 133, 134, 135, 136, 137, 138, 139, 140, 141, 142, 143, 144, 145, 146, 147, 148, 149, 150, 151, 152, 153, 154] (by decide +kernel) (by decide +kernel)) (goodIn_sub (fun _ h => List.mem_cons_of_mem _ (List.mem_append_right _ h)) (by decide +kernel))
set_option maxRecDepth 20000 in
theorem gL_isBillet_L_area : GoodIn wsL_isBillet (va_wsS RL 108 yL_area wsL_area) := goodIn_app (goodIn_of _ (by decide +kernel)) ggL_isBillet_L_area
set_option maxRecDepth 20000 in
theorem ggL_isBillet_L_hardness : GoodIn wsL_isBillet wsL_hardness := goodIn_ca (goodIn_r _ [85, 7, 2, 86, 87, 88, 12, 89, 24, 25, 26, 27, 28, 29, 30, 31, 32, 33, 34, 35, 36, 37, 38, 39, 40, 41, 42, 43, 44, 45, 46, 47, 48, 49, 50, 51, 52, 53, 54, 80, 81, 82, 90, 91, 92, 58, 93, 94, 95, 96, 97, 98, 99, 100, 144, 145, 146, 147, 148, 149, 150, 151, 152, 153, 154, 126, 127, 128, 129, 130, 131, 132, 133, 134, 135, 136, 137, 138, 139, 140, 141, 142, 143] (by decide +kernel) (by decide +kernel)) (goodIn_sub (fun _ h => List.mem_cons_of_mem _ (List.mem_append_right _ h)) (by decide +kernel))
set_option maxRecDepth 20000 in
theorem gL_isBillet_L_hardness : GoodIn wsL_isBillet (va_wsS RL 110 yL_hardness wsL_hardness) := goodIn_app (goodIn_of _ (by decide +kernel)) ggL_isBillet_L_hardness
set_option maxRecDepth 20000 in
theorem ggL_isBillet_L_paper : GoodIn wsL_isBillet wsL_paper := goodIn_ca (goodIn_ca (goodIn_r _ [103, 7, 8, 2, 1, 104, 105, 106, 12, 107, 14, 15, 108, 21, 20, 23, 109, 110, 24, 25, 26, 27, 28, 29, 30, 31, 32, 33, 34, 35, 36, 37, 38, 39, 40, 41, 42, 43, 44, 45, 46, 47, 48, 49, 50, 51, 52, 53, 54, 111, 112, 113, 114, 115, 116, 117, 58, 118, 119, 120, 99, 121, 122, 91, 92, 93, 94, 95, 96, 97, 98, 100, 126, 127, 128, 129, 130, 131, 132, 133, 134, 135, 136, 137, 138, 139, 140, 141, 142, 143, 144, 145, 146, 147, 148, 149, 150, 151, 152, 153, 154] (by decide +kernel) (by decide +kernel)) (goodIn_sub (fun _ h => List.mem_cons_of_mem _ (List.mem_append_left _ (List.mem_append_right _ h))) (by decide +kernel))) (goodIn_sub (fun _ h => List.mem_cons_of_mem _ (List.mem_append_right _ h)) (by decide +kernel))
set_option maxRecDepth 20000 in
theorem gL_isBillet_L_paper : GoodIn wsL_isBillet (va_wsS RL 112 yL_paper wsL_paper) := goodIn_app (goodIn_of _ (by decide +kernel)) ggL_isBillet_L_paper
set_option maxRecDepth 20000 in
theorem ggL_isBillet_L_ones : GoodIn wsL_isBillet wsL_ones := goodIn_r _ [125] (by decide +kernel) (by decide +kernel)
set_option maxRecDepth 20000 in
theorem gL_isBillet_L_ones : GoodIn wsL_isBillet (va_wsS RL 114 yL_ones wsL_ones) := goodIn_app (goodIn_of _ (by decide +kernel)) ggL_isBillet_L_ones
theorem dL_isBillet_0 : decode cL_isBillet 0 = .ok (.iconst 0, 1) := by decide +kernel
theorem dL_isBillet_1 : decode cL_isBillet 1 = .ok (.istore 5, 2) := by decide +kernel
theorem dL_isBillet_3 : decode cL_isBillet 3 = .ok (.aload_n 0, 1) := by decide +kernel
theorem dL_isBillet_4 : decode cL_isBillet 4 = .ok (.iload 4, 2) := by decide +kernel
theorem dL_isBillet_6 : decode cL_isBillet 6 = .ok (.bipush 8, 2) := by decide +kernel
theorem dL_isBillet_8 : decode cL_isBillet 8 = .ok (.invokestatic 100, 3) := by decide +kernel
theorem dL_isBillet_11 : decode cL_isBillet 11 = .ok (.istore 6, 2) := by decide +kernel
theorem dL_isBillet_13 : decode cL_isBillet 13 = .ok (.aload_n 0, 1) := by decide +kernel
theorem dL_isBillet_14 : decode cL_isBillet 14 = .ok (.iload 4, 2) := by decide +kernel
theorem dL_isBillet_16 : decode cL_isBillet 16 = .ok (.invokestatic 105, 3) := by decide +kernel
theorem dL_isBillet_19 : decode cL_isBillet 19 = .ok (.iconst 1, 1) := by decide +kernel
theorem dL_isBillet_20 : decode cL_isBillet 20 = .ok (.if_icmp .ne 47, 3) := by decide +kernel
theorem dL_isBillet_23 : decode cL_isBillet 23 = .ok (.aload_n 0, 1) := by decide +kernel
theorem dL_isBillet_24 : decode cL_isBillet 24 = .ok (.iload 4, 2) := by decide +kernel
theorem dL_isBillet_26 : decode cL_isBillet 26 = .ok (.bipush 9, 2) := by decide +kernel
theorem dL_isBillet_28 : decode cL_isBillet 28 = .ok (.invokestatic 100, 3) := by decide +kernel
theorem dL_isBillet_31 : decode cL_isBillet 31 = .ok (.ldc 21, 2) := by decide +kernel
theorem dL_isBillet_33 : decode cL_isBillet 33 = .ok (.if_icmp .ne 34, 3) := by decide +kernel
theorem dL_isBillet_36 : decode cL_isBillet 36 = .ok (.aload_n 0, 1) := by decide +kernel
theorem dL_isBillet_37 : decode cL_isBillet 37 = .ok (.iload 4, 2) := by decide +kernel
theorem dL_isBillet_39 : decode cL_isBillet 39 = .ok (.bipush 8, 2) := by decide +kernel
theorem dL_isBillet_41 : decode cL_isBillet 41 = .ok (.invokestatic 108, 3) := by decide +kernel
theorem dL_isBillet_44 : decode cL_isBillet 44 = .ok (.ldc 18, 2) := by decide +kernel
theorem dL_isBillet_46 : decode cL_isBillet 46 = .ok (.if_icmp .ne 21, 3) := by decide +kernel
theorem dL_isBillet_49 : decode cL_isBillet 49 = .ok (.iload 6, 2) := by decide +kernel
theorem dL_isBillet_51 : decode cL_isBillet 51 = .ok (.iconst (-1), 1) := by decide +kernel
theorem dL_isBillet_52 : decode cL_isBillet 52 = .ok (.if_icmp .lt 15, 3) := by decide +kernel
theorem dL_isBillet_55 : decode cL_isBillet 55 = .ok (.iload 6, 2) := by decide +kernel
theorem dL_isBillet_57 : decode cL_isBillet 57 = .ok (.aload_n 1, 1) := by decide +kernel
theorem dL_isBillet_58 : decode cL_isBillet 58 = .ok (.iconst 3, 1) := by decide +kernel
theorem dL_isBillet_59 : decode cL_isBillet 59 = .ok (.iaload, 1) := by decide +kernel
theorem dL_isBillet_60 : decode cL_isBillet 60 = .ok (.if_icmp .ge 7, 3) := by decide +kernel
theorem dL_isBillet_63 : decode cL_isBillet 63 = .ok (.iconst 1, 1) := by decide +kernel
theorem dL_isBillet_64 : decode cL_isBillet 64 = .ok (.goto 4, 3) := by decide +kernel
theorem dL_isBillet_67 : decode cL_isBillet 67 = .ok (.iconst 0, 1) := by decide +kernel
theorem dL_isBillet_68 : decode cL_isBillet 68 = .ok (.istore 7, 2) := by decide +kernel
theorem dL_isBillet_70 : decode cL_isBillet 70 = .ok (.bipush 99, 2) := by decide +kernel
theorem dL_isBillet_72 : decode cL_isBillet 72 = .ok (.istore 8, 2) := by decide +kernel
theorem dL_isBillet_74 : decode cL_isBillet 74 = .ok (.iconst 0, 1) := by decide +kernel
theorem dL_isBillet_75 : decode cL_isBillet 75 = .ok (.istore 9, 2) := by decide +kernel
theorem dL_isBillet_77 : decode cL_isBillet 77 = .ok (.iload 9, 2) := by decide +kernel
theorem dL_isBillet_79 : decode cL_isBillet 79 = .ok (.bipush 8, 2) := by decide +kernel
theorem dL_isBillet_81 : decode cL_isBillet 81 = .ok (.if_icmp .ge 90, 3) := by decide +kernel
theorem dL_isBillet_84 : decode cL_isBillet 84 = .ok (.iload 7, 2) := by decide +kernel
theorem dL_isBillet_86 : decode cL_isBillet 86 = .ok (.ifCond .eq 85, 3) := by decide +kernel
theorem dL_isBillet_89 : decode cL_isBillet 89 = .ok (.aload_n 0, 1) := by decide +kernel
theorem dL_isBillet_90 : decode cL_isBillet 90 = .ok (.iload 4, 2) := by decide +kernel
theorem dL_isBillet_92 : decode cL_isBillet 92 = .ok (.iload 9, 2) := by decide +kernel
theorem dL_isBillet_94 : decode cL_isBillet 94 = .ok (.invokestatic 108, 3) := by decide +kernel
theorem dL_isBillet_97 : decode cL_isBillet 97 = .ok (.istore 10, 2) := by decide +kernel
theorem dL_isBillet_99 : decode cL_isBillet 99 = .ok (.aload_n 0, 1) := by decide +kernel
theorem dL_isBillet_100 : decode cL_isBillet 100 = .ok (.iload 4, 2) := by decide +kernel
theorem dL_isBillet_102 : decode cL_isBillet 102 = .ok (.iload 9, 2) := by decide +kernel
theorem dL_isBillet_104 : decode cL_isBillet 104 = .ok (.invokestatic 110, 3) := by decide +kernel
theorem dL_isBillet_107 : decode cL_isBillet 107 = .ok (.istore 11, 2) := by decide +kernel
theorem dL_isBillet_109 : decode cL_isBillet 109 = .ok (.iload 5, 2) := by decide +kernel
theorem dL_isBillet_111 : decode cL_isBillet 111 = .ok (.iload 10, 2) := by decide +kernel
theorem dL_isBillet_113 : decode cL_isBillet 113 = .ok (.iadd, 1) := by decide +kernel
theorem dL_isBillet_114 : decode cL_isBillet 114 = .ok (.istore 5, 2) := by decide +kernel
theorem dL_isBillet_116 : decode cL_isBillet 116 = .ok (.iload 11, 2) := by decide +kernel
theorem dL_isBillet_118 : decode cL_isBillet 118 = .ok (.iload 8, 2) := by decide +kernel
theorem dL_isBillet_120 : decode cL_isBillet 120 = .ok (.if_icmp .ge 8, 3) := by decide +kernel
theorem dL_isBillet_123 : decode cL_isBillet 123 = .ok (.iload 11, 2) := by decide +kernel
theorem dL_isBillet_125 : decode cL_isBillet 125 = .ok (.goto 5, 3) := by decide +kernel
theorem dL_isBillet_128 : decode cL_isBillet 128 = .ok (.iload 8, 2) := by decide +kernel
theorem dL_isBillet_130 : decode cL_isBillet 130 = .ok (.istore 8, 2) := by decide +kernel
theorem dL_isBillet_132 : decode cL_isBillet 132 = .ok (.iload 10, 2) := by decide +kernel
theorem dL_isBillet_134 : decode cL_isBillet 134 = .ok (.ifCond .le 28, 3) := by decide +kernel
theorem dL_isBillet_137 : decode cL_isBillet 137 = .ok (.iload 11, 2) := by decide +kernel
theorem dL_isBillet_139 : decode cL_isBillet 139 = .ok (.ifCond .lt 23, 3) := by decide +kernel
theorem dL_isBillet_142 : decode cL_isBillet 142 = .ok (.iload 11, 2) := by decide +kernel
theorem dL_isBillet_144 : decode cL_isBillet 144 = .ok (.iload 6, 2) := by decide +kernel
theorem dL_isBillet_146 : decode cL_isBillet 146 = .ok (.ifCond .ge 7, 3) := by decide +kernel
theorem dL_isBillet_149 : decode cL_isBillet 149 = .ok (.iconst 0, 1) := by decide +kernel
theorem dL_isBillet_150 : decode cL_isBillet 150 = .ok (.goto 5, 3) := by decide +kernel
theorem dL_isBillet_153 : decode cL_isBillet 153 = .ok (.bipush 70, 2) := by decide +kernel
theorem dL_isBillet_155 : decode cL_isBillet 155 = .ok (.if_icmp .gt 7, 3) := by decide +kernel
theorem dL_isBillet_158 : decode cL_isBillet 158 = .ok (.iconst 1, 1) := by decide +kernel
theorem dL_isBillet_159 : decode cL_isBillet 159 = .ok (.goto 4, 3) := by decide +kernel
theorem dL_isBillet_162 : decode cL_isBillet 162 = .ok (.iconst 0, 1) := by decide +kernel
theorem dL_isBillet_163 : decode cL_isBillet 163 = .ok (.istore 7, 2) := by decide +kernel
theorem dL_isBillet_165 : decode cL_isBillet 165 = .ok (.iinc 9 1, 3) := by decide +kernel
theorem dL_isBillet_168 : decode cL_isBillet 168 = .ok (.goto (-91), 3) := by decide +kernel
theorem dL_isBillet_171 : decode cL_isBillet 171 = .ok (.aload_n 0, 1) := by decide +kernel
theorem dL_isBillet_172 : decode cL_isBillet 172 = .ok (.iload 4, 2) := by decide +kernel
theorem dL_isBillet_174 : decode cL_isBillet 174 = .ok (.iconst 0, 1) := by decide +kernel
theorem dL_isBillet_175 : decode cL_isBillet 175 = .ok (.invokestatic 100, 3) := by decide +kernel
theorem dL_isBillet_178 : decode cL_isBillet 178 = .ok (.istore 9, 2) := by decide +kernel
theorem dL_isBillet_180 : decode cL_isBillet 180 = .ok (.aload_n 0, 1) := by decide +kernel
theorem dL_isBillet_181 : decode cL_isBillet 181 = .ok (.iload 4, 2) := by decide +kernel
theorem dL_isBillet_183 : decode cL_isBillet 183 = .ok (.iconst 1, 1) := by decide +kernel
theorem dL_isBillet_184 : decode cL_isBillet 184 = .ok (.invokestatic 100, 3) := by decide +kernel
theorem dL_isBillet_187 : decode cL_isBillet 187 = .ok (.istore 10, 2) := by decide +kernel
theorem dL_isBillet_189 : decode cL_isBillet 189 = .ok (.aload_n 0, 1) := by decide +kernel
theorem dL_isBillet_190 : decode cL_isBillet 190 = .ok (.iload 4, 2) := by decide +kernel
theorem dL_isBillet_192 : decode cL_isBillet 192 = .ok (.iconst 4, 1) := by decide +kernel
theorem dL_isBillet_193 : decode cL_isBillet 193 = .ok (.invokestatic 100, 3) := by decide +kernel
theorem dL_isBillet_196 : decode cL_isBillet 196 = .ok (.istore 11, 2) := by decide +kernel
theorem dL_isBillet_198 : decode cL_isBillet 198 = .ok (.aload_n 0, 1) := by decide +kernel
theorem dL_isBillet_199 : decode cL_isBillet 199 = .ok (.iload 4, 2) := by decide +kernel
theorem dL_isBillet_201 : decode cL_isBillet 201 = .ok (.bipush 6, 2) := by decide +kernel
theorem dL_isBillet_203 : decode cL_isBillet 203 = .ok (.invokestatic 100, 3) := by decide +kernel
theorem dL_isBillet_206 : decode cL_isBillet 206 = .ok (.istore 12, 2) := by decide +kernel
theorem dL_isBillet_208 : decode cL_isBillet 208 = .ok (.aload_n 0, 1) := by decide +kernel
theorem dL_isBillet_209 : decode cL_isBillet 209 = .ok (.iload 4, 2) := by decide +kernel
theorem dL_isBillet_211 : decode cL_isBillet 211 = .ok (.iload 8, 2) := by decide +kernel
theorem dL_isBillet_213 : decode cL_isBillet 213 = .ok (.invokestatic 112, 3) := by decide +kernel
theorem dL_isBillet_216 : decode cL_isBillet 216 = .ok (.istore 13, 2) := by decide +kernel
theorem dL_isBillet_218 : decode cL_isBillet 218 = .ok (.iload 7, 2) := by decide +kernel
theorem dL_isBillet_220 : decode cL_isBillet 220 = .ok (.ifCond .eq 173, 3) := by decide +kernel
theorem dL_isBillet_223 : decode cL_isBillet 223 = .ok (.iload 5, 2) := by decide +kernel
theorem dL_isBillet_225 : decode cL_isBillet 225 = .ok (.aload_n 0, 1) := by decide +kernel
theorem dL_isBillet_226 : decode cL_isBillet 226 = .ok (.iload 4, 2) := by decide +kernel
theorem dL_isBillet_228 : decode cL_isBillet 228 = .ok (.iconst 2, 1) := by decide +kernel
theorem dL_isBillet_229 : decode cL_isBillet 229 = .ok (.invokestatic 100, 3) := by decide +kernel
theorem dL_isBillet_232 : decode cL_isBillet 232 = .ok (.if_icmp .ne 161, 3) := by decide +kernel
theorem dL_isBillet_235 : decode cL_isBillet 235 = .ok (.iload 5, 2) := by decide +kernel
theorem dL_isBillet_237 : decode cL_isBillet 237 = .ok (.bipush 8, 2) := by decide +kernel
theorem dL_isBillet_239 : decode cL_isBillet 239 = .ok (.aload_n 2, 1) := by decide +kernel
theorem dL_isBillet_240 : decode cL_isBillet 240 = .ok (.iload 4, 2) := by decide +kernel
theorem dL_isBillet_242 : decode cL_isBillet 242 = .ok (.iaload, 1) := by decide +kernel
theorem dL_isBillet_243 : decode cL_isBillet 243 = .ok (.imul, 1) := by decide +kernel
theorem dL_isBillet_244 : decode cL_isBillet 244 = .ok (.if_icmp .gt 149, 3) := by decide +kernel
theorem dL_isBillet_247 : decode cL_isBillet 247 = .ok (.iload 9, 2) := by decide +kernel
theorem dL_isBillet_249 : decode cL_isBillet 249 = .ok (.bipush 20, 2) := by decide +kernel
theorem dL_isBillet_251 : decode cL_isBillet 251 = .ok (.if_icmp .lt 142, 3) := by decide +kernel
theorem dL_isBillet_254 : decode cL_isBillet 254 = .ok (.iload 9, 2) := by decide +kernel
theorem dL_isBillet_256 : decode cL_isBillet 256 = .ok (.sipush 1300, 3) := by decide +kernel
theorem dL_isBillet_259 : decode cL_isBillet 259 = .ok (.if_icmp .gt 134, 3) := by decide +kernel
theorem dL_isBillet_262 : decode cL_isBillet 262 = .ok (.iload 10, 2) := by decide +kernel
theorem dL_isBillet_264 : decode cL_isBillet 264 = .ok (.bipush 20, 2) := by decide +kernel
theorem dL_isBillet_266 : decode cL_isBillet 266 = .ok (.if_icmp .lt 127, 3) := by decide +kernel
theorem dL_isBillet_269 : decode cL_isBillet 269 = .ok (.iload 10, 2) := by decide +kernel
theorem dL_isBillet_271 : decode cL_isBillet 271 = .ok (.sipush 1300, 3) := by decide +kernel
theorem dL_isBillet_274 : decode cL_isBillet 274 = .ok (.if_icmp .gt 119, 3) := by decide +kernel
theorem dL_isBillet_277 : decode cL_isBillet 277 = .ok (.aload_n 0, 1) := by decide +kernel
theorem dL_isBillet_278 : decode cL_isBillet 278 = .ok (.iload 4, 2) := by decide +kernel
theorem dL_isBillet_280 : decode cL_isBillet 280 = .ok (.iconst 3, 1) := by decide +kernel
theorem dL_isBillet_281 : decode cL_isBillet 281 = .ok (.invokestatic 100, 3) := by decide +kernel
theorem dL_isBillet_284 : decode cL_isBillet 284 = .ok (.aload_n 3, 1) := by decide +kernel
theorem dL_isBillet_285 : decode cL_isBillet 285 = .ok (.iload 4, 2) := by decide +kernel
theorem dL_isBillet_287 : decode cL_isBillet 287 = .ok (.iaload, 1) := by decide +kernel
theorem dL_isBillet_288 : decode cL_isBillet 288 = .ok (.if_icmp .ne 105, 3) := by decide +kernel
theorem dL_isBillet_291 : decode cL_isBillet 291 = .ok (.iload 11, 2) := by decide +kernel
theorem dL_isBillet_293 : decode cL_isBillet 293 = .ok (.iconst 5, 1) := by decide +kernel
theorem dL_isBillet_294 : decode cL_isBillet 294 = .ok (.if_icmp .lt 99, 3) := by decide +kernel
theorem dL_isBillet_297 : decode cL_isBillet 297 = .ok (.iload 11, 2) := by decide +kernel
theorem dL_isBillet_299 : decode cL_isBillet 299 = .ok (.sipush 200, 3) := by decide +kernel
theorem dL_isBillet_302 : decode cL_isBillet 302 = .ok (.if_icmp .gt 91, 3) := by decide +kernel
theorem dL_isBillet_305 : decode cL_isBillet 305 = .ok (.aload_n 0, 1) := by decide +kernel
theorem dL_isBillet_306 : decode cL_isBillet 306 = .ok (.iload 4, 2) := by decide +kernel
theorem dL_isBillet_308 : decode cL_isBillet 308 = .ok (.iconst 5, 1) := by decide +kernel
theorem dL_isBillet_309 : decode cL_isBillet 309 = .ok (.invokestatic 100, 3) := by decide +kernel
theorem dL_isBillet_312 : decode cL_isBillet 312 = .ok (.ifCond .lt 81, 3) := by decide +kernel
theorem dL_isBillet_315 : decode cL_isBillet 315 = .ok (.iload 12, 2) := by decide +kernel
theorem dL_isBillet_317 : decode cL_isBillet 317 = .ok (.ifCond .eq 15, 3) := by decide +kernel
theorem dL_isBillet_320 : decode cL_isBillet 320 = .ok (.iload 12, 2) := by decide +kernel
theorem dL_isBillet_322 : decode cL_isBillet 322 = .ok (.iconst 1, 1) := by decide +kernel
theorem dL_isBillet_323 : decode cL_isBillet 323 = .ok (.if_icmp .ne 70, 3) := by decide +kernel
theorem dL_isBillet_326 : decode cL_isBillet 326 = .ok (.iload 13, 2) := by decide +kernel
theorem dL_isBillet_328 : decode cL_isBillet 328 = .ok (.iconst (-1), 1) := by decide +kernel
theorem dL_isBillet_329 : decode cL_isBillet 329 = .ok (.if_icmp .ne 64, 3) := by decide +kernel
theorem dL_isBillet_332 : decode cL_isBillet 332 = .ok (.aload_n 0, 1) := by decide +kernel
theorem dL_isBillet_333 : decode cL_isBillet 333 = .ok (.iload 4, 2) := by decide +kernel
theorem dL_isBillet_335 : decode cL_isBillet 335 = .ok (.bipush 7, 2) := by decide +kernel
theorem dL_isBillet_337 : decode cL_isBillet 337 = .ok (.invokestatic 100, 3) := by decide +kernel
theorem dL_isBillet_340 : decode cL_isBillet 340 = .ok (.invokestatic 114, 3) := by decide +kernel
theorem dL_isBillet_343 : decode cL_isBillet 343 = .ok (.iconst 4, 1) := by decide +kernel
theorem dL_isBillet_344 : decode cL_isBillet 344 = .ok (.if_icmp .ne 49, 3) := by decide +kernel
theorem dL_isBillet_347 : decode cL_isBillet 347 = .ok (.iload 13, 2) := by decide +kernel
theorem dL_isBillet_349 : decode cL_isBillet 349 = .ok (.iconst (-1), 1) := by decide +kernel
theorem dL_isBillet_350 : decode cL_isBillet 350 = .ok (.if_icmp .eq 39, 3) := by decide +kernel
theorem dL_isBillet_353 : decode cL_isBillet 353 = .ok (.iload 6, 2) := by decide +kernel
theorem dL_isBillet_355 : decode cL_isBillet 355 = .ok (.ifCond .lt 38, 3) := by decide +kernel
theorem dL_isBillet_358 : decode cL_isBillet 358 = .ok (.aload_n 0, 1) := by decide +kernel
theorem dL_isBillet_359 : decode cL_isBillet 359 = .ok (.iload 4, 2) := by decide +kernel
theorem dL_isBillet_361 : decode cL_isBillet 361 = .ok (.iconst 5, 1) := by decide +kernel
theorem dL_isBillet_362 : decode cL_isBillet 362 = .ok (.invokestatic 100, 3) := by decide +kernel
theorem dL_isBillet_365 : decode cL_isBillet 365 = .ok (.ifCond .ne 28, 3) := by decide +kernel
theorem dL_isBillet_368 : decode cL_isBillet 368 = .ok (.iload 8, 2) := by decide +kernel
theorem dL_isBillet_370 : decode cL_isBillet 370 = .ok (.bipush 70, 2) := by decide +kernel
theorem dL_isBillet_372 : decode cL_isBillet 372 = .ok (.if_icmp .eq 17, 3) := by decide +kernel
theorem dL_isBillet_375 : decode cL_isBillet 375 = .ok (.aload_n 0, 1) := by decide +kernel
theorem dL_isBillet_376 : decode cL_isBillet 376 = .ok (.iload 4, 2) := by decide +kernel
theorem dL_isBillet_378 : decode cL_isBillet 378 = .ok (.iload 8, 2) := by decide +kernel
theorem dL_isBillet_380 : decode cL_isBillet 380 = .ok (.iconst 1, 1) := by decide +kernel
theorem dL_isBillet_381 : decode cL_isBillet 381 = .ok (.iadd, 1) := by decide +kernel
theorem dL_isBillet_382 : decode cL_isBillet 382 = .ok (.invokestatic 112, 3) := by decide +kernel
theorem dL_isBillet_385 : decode cL_isBillet 385 = .ok (.iconst (-1), 1) := by decide +kernel
theorem dL_isBillet_386 : decode cL_isBillet 386 = .ok (.if_icmp .ne 7, 3) := by decide +kernel
theorem dL_isBillet_389 : decode cL_isBillet 389 = .ok (.iconst 1, 1) := by decide +kernel
theorem dL_isBillet_390 : decode cL_isBillet 390 = .ok (.goto 4, 3) := by decide +kernel
theorem dL_isBillet_393 : decode cL_isBillet 393 = .ok (.iconst 0, 1) := by decide +kernel
theorem dL_isBillet_394 : decode cL_isBillet 394 = .ok (.ireturn, 1) := by decide +kernel
set_option maxRecDepth 20000 in
theorem ggL_isNearer_L_fewest : GoodIn wsL_isNearer wsL_fewest := goodIn_ca (goodIn_ca (goodIn_r _ [4, 5, 6, 7, 8, 9, 10, 11, 12, 13, 14, 15, 16, 17, 18, 19, 20, 21, 22, 23, 24, 25, 26, 27, 28, 29, 30, 31, 32, 33, 34, 35, 36, 37, 38, 39, 40, 41, 42, 43, 44, 45, 46, 47, 48, 49, 50, 51, 52, 53, 54, 55, 56, 57, 58, 59, 60, 61, 62, 63, 64, 65, 66, 67, 68, 69, 70, 114, 115, 116, 117, 118, 119, 120, 121, 122, 123, 124, 125, 126, 127, 128, 129, 130, 131, 132, 133, 134, 135, 136, 137, 138, 139, 140, 141, 142, 143, 144, 145] (by decide +kernel) (by decide +kernel)) (goodIn_sub (fun _ h => List.mem_cons_of_mem _ (List.mem_append_left _ (List.mem_append_left _ (List.mem_append_right _ h)))) (by decide +kernel))) (goodIn_sub (fun _ h => List.mem_cons_of_mem _ (List.mem_append_left _ (List.mem_append_right _ h))) (by decide +kernel))
set_option maxRecDepth 20000 in
theorem gL_isNearer_L_fewest : GoodIn wsL_isNearer (va_wsS RL 117 yL_fewest wsL_fewest) := goodIn_app (goodIn_of _ (by decide +kernel)) ggL_isNearer_L_fewest
set_option maxRecDepth 20000 in
theorem ggL_isNearer_L_first : GoodIn wsL_isNearer wsL_first := goodIn_ca (goodIn_ca (goodIn_r _ [73, 5, 6, 7, 8, 74, 75, 76, 12, 77, 14, 15, 78, 17, 18, 19, 20, 21, 22, 23, 24, 25, 26, 27, 28, 29, 30, 31, 32, 33, 34, 35, 36, 37, 38, 39, 40, 41, 42, 43, 44, 45, 46, 47, 48, 49, 50, 51, 52, 53, 54, 55, 56, 57, 58, 59, 60, 61, 62, 63, 64, 65, 66, 67, 68, 69, 70, 114, 115, 116, 117, 118, 119, 120, 121, 122, 123, 124, 125, 126, 127, 128, 129, 130, 131, 132, 133, 134, 135, 136, 137, 138, 139, 140, 141, 142, 143, 144, 145] (by decide +kernel) (by decide +kernel)) (goodIn_sub (fun _ h => List.mem_cons_of_mem _ (List.mem_append_left _ (List.mem_append_left _ (List.mem_append_right _ h)))) (by decide +kernel))) (goodIn_sub (fun _ h => List.mem_cons_of_mem _ (List.mem_append_left _ (List.mem_append_right _ h))) (by decide +kernel))
set_option maxRecDepth 20000 in
theorem gL_isNearer_L_first : GoodIn wsL_isNearer (va_wsS RL 119 yL_first wsL_first) := goodIn_app (goodIn_of _ (by decide +kernel)) ggL_isNearer_L_first
set_option maxRecDepth 20000 in
theorem ggL_isNearer_L_billetIs : GoodIn wsL_isNearer wsL_billetIs := goodIn_ca (goodIn_ca (goodIn_r _ [81, 5, 6, 7, 8, 82, 83, 84, 12, 85, 51, 52, 86, 87, 88, 89, 90, 91, 15, 92, 17, 18, 19, 20, 21, 22, 23, 24, 25, 26, 27, 28, 29, 30, 31, 32, 33, 34, 35, 36, 37, 38, 39, 40, 41, 42, 43, 44, 45, 46, 47, 93, 94, 95, 96, 97, 98, 122, 123, 124, 125, 126, 127, 128, 129, 130, 131, 132, 133, 134, 135, 136, 137, 138, 139, 114, 115, 116, 117, 118, 119, 120, 121, 143, 144, 145] (by decide +kernel) (by decide +kernel)) (goodIn_sub (fun _ h => List.mem_cons_of_mem _ (List.mem_append_left _ (List.mem_append_right _ h))) (by decide +kernel))) (goodIn_sub (fun _ h => List.mem_cons_of_mem _ (List.mem_append_left _ (List.mem_append_left _ (List.mem_append_right _ h)))) (by decide +kernel))
set_option maxRecDepth 20000 in
theorem gL_isNearer_L_billetIs : GoodIn wsL_isNearer (va_wsS RL 100 yL_billetIs wsL_billetIs) := goodIn_app (goodIn_of _ (by decide +kernel)) ggL_isNearer_L_billetIs
set_option maxRecDepth 20000 in
theorem ggL_isNearer_L_ones : GoodIn wsL_isNearer wsL_ones := goodIn_r _ [101] (by decide +kernel) (by decide +kernel)
set_option maxRecDepth 20000 in
theorem gL_isNearer_L_ones : GoodIn wsL_isNearer (va_wsS RL 114 yL_ones wsL_ones) := goodIn_app (goodIn_of _ (by decide +kernel)) ggL_isNearer_L_ones
set_option maxRecDepth 20000 in
theorem ggL_isNearer_L_layer : GoodIn wsL_isNearer wsL_layer := goodIn_ca (goodIn_ca (goodIn_ca (goodIn_r _ [104, 5, 6, 105, 7, 8, 106, 107, 108, 109, 12, 110, 51, 52, 111, 112, 87, 15, 17, 18, 19, 20, 21, 22, 23, 24, 25, 26, 27, 28, 29, 30, 31, 32, 33, 34, 35, 36, 37, 38, 39, 40, 41, 42, 43, 44, 45, 46, 47, 113, 66, 56, 67, 68, 69, 70, 122, 123, 124, 125, 126, 127, 128, 129, 130, 131, 132, 133, 134, 135, 136, 137, 138, 139, 114, 115, 116, 117, 118, 119, 120, 121, 143, 144, 145] (by decide +kernel) (by decide +kernel)) (goodIn_sub (fun _ h => List.mem_cons_of_mem _ (List.mem_append_left _ (List.mem_append_right _ h))) (by decide +kernel))) (goodIn_sub (fun _ h => List.mem_cons_of_mem _ (List.mem_append_right _ h)) (by decide +kernel))) (goodIn_sub (fun _ h => List.mem_cons_of_mem _ (List.mem_append_left _ (List.mem_append_left _ (List.mem_append_right _ h)))) (by decide +kernel))
set_option maxRecDepth 20000 in
theorem gL_isNearer_L_layer : GoodIn wsL_isNearer (va_wsS RL 121 yL_layer wsL_layer) := goodIn_app (goodIn_of _ (by decide +kernel)) ggL_isNearer_L_layer
theorem dL_isNearer_0 : decode cL_isNearer 0 = .ok (.aload_n 1, 1) := by decide +kernel
theorem dL_isNearer_1 : decode cL_isNearer 1 = .ok (.iconst 5, 1) := by decide +kernel
theorem dL_isNearer_2 : decode cL_isNearer 2 = .ok (.dup2, 1) := by decide +kernel
theorem dL_isNearer_3 : decode cL_isNearer 3 = .ok (.iaload, 1) := by decide +kernel
theorem dL_isNearer_4 : decode cL_isNearer 4 = .ok (.iconst 1, 1) := by decide +kernel
theorem dL_isNearer_5 : decode cL_isNearer 5 = .ok (.iadd, 1) := by decide +kernel
theorem dL_isNearer_6 : decode cL_isNearer 6 = .ok (.iastore, 1) := by decide +kernel
theorem dL_isNearer_7 : decode cL_isNearer 7 = .ok (.aload_n 1, 1) := by decide +kernel
theorem dL_isNearer_8 : decode cL_isNearer 8 = .ok (.iconst 5, 1) := by decide +kernel
theorem dL_isNearer_9 : decode cL_isNearer 9 = .ok (.iaload, 1) := by decide +kernel
theorem dL_isNearer_10 : decode cL_isNearer 10 = .ok (.bipush 20, 2) := by decide +kernel
theorem dL_isNearer_12 : decode cL_isNearer 12 = .ok (.if_icmp .le 5, 3) := by decide +kernel
theorem dL_isNearer_15 : decode cL_isNearer 15 = .ok (.iconst 1, 1) := by decide +kernel
theorem dL_isNearer_16 : decode cL_isNearer 16 = .ok (.ireturn, 1) := by decide +kernel
theorem dL_isNearer_17 : decode cL_isNearer 17 = .ok (.aload_n 0, 1) := by decide +kernel
theorem dL_isNearer_18 : decode cL_isNearer 18 = .ok (.iload_n 2, 1) := by decide +kernel
theorem dL_isNearer_19 : decode cL_isNearer 19 = .ok (.iload_n 3, 1) := by decide +kernel
theorem dL_isNearer_20 : decode cL_isNearer 20 = .ok (.invokestatic 117, 3) := by decide +kernel
theorem dL_isNearer_23 : decode cL_isNearer 23 = .ok (.istore 4, 2) := by decide +kernel
theorem dL_isNearer_25 : decode cL_isNearer 25 = .ok (.aload_n 0, 1) := by decide +kernel
theorem dL_isNearer_26 : decode cL_isNearer 26 = .ok (.iload_n 2, 1) := by decide +kernel
theorem dL_isNearer_27 : decode cL_isNearer 27 = .ok (.iload_n 3, 1) := by decide +kernel
theorem dL_isNearer_28 : decode cL_isNearer 28 = .ok (.invokestatic 119, 3) := by decide +kernel
theorem dL_isNearer_31 : decode cL_isNearer 31 = .ok (.istore 5, 2) := by decide +kernel
theorem dL_isNearer_33 : decode cL_isNearer 33 = .ok (.aload_n 0, 1) := by decide +kernel
theorem dL_isNearer_34 : decode cL_isNearer 34 = .ok (.iload_n 2, 1) := by decide +kernel
theorem dL_isNearer_35 : decode cL_isNearer 35 = .ok (.bipush 7, 2) := by decide +kernel
theorem dL_isNearer_37 : decode cL_isNearer 37 = .ok (.invokestatic 100, 3) := by decide +kernel
theorem dL_isNearer_40 : decode cL_isNearer 40 = .ok (.istore 6, 2) := by decide +kernel
theorem dL_isNearer_42 : decode cL_isNearer 42 = .ok (.iload 4, 2) := by decide +kernel
theorem dL_isNearer_44 : decode cL_isNearer 44 = .ok (.iconst 1, 1) := by decide +kernel
theorem dL_isNearer_45 : decode cL_isNearer 45 = .ok (.if_icmp .lt 15, 3) := by decide +kernel
theorem dL_isNearer_48 : decode cL_isNearer 48 = .ok (.aload_n 0, 1) := by decide +kernel
theorem dL_isNearer_49 : decode cL_isNearer 49 = .ok (.iload_n 2, 1) := by decide +kernel
theorem dL_isNearer_50 : decode cL_isNearer 50 = .ok (.iconst 1, 1) := by decide +kernel
theorem dL_isNearer_51 : decode cL_isNearer 51 = .ok (.invokestatic 100, 3) := by decide +kernel
theorem dL_isNearer_54 : decode cL_isNearer 54 = .ok (.sipush 900, 3) := by decide +kernel
theorem dL_isNearer_57 : decode cL_isNearer 57 = .ok (.if_icmp .ge 72, 3) := by decide +kernel
theorem dL_isNearer_60 : decode cL_isNearer 60 = .ok (.iload 5, 2) := by decide +kernel
theorem dL_isNearer_62 : decode cL_isNearer 62 = .ok (.iconst (-1), 1) := by decide +kernel
theorem dL_isNearer_63 : decode cL_isNearer 63 = .ok (.if_icmp .ne 7, 3) := by decide +kernel
theorem dL_isNearer_66 : decode cL_isNearer 66 = .ok (.iconst 1, 1) := by decide +kernel
theorem dL_isNearer_67 : decode cL_isNearer 67 = .ok (.goto 4, 3) := by decide +kernel
theorem dL_isNearer_70 : decode cL_isNearer 70 = .ok (.iconst 0, 1) := by decide +kernel
theorem dL_isNearer_71 : decode cL_isNearer 71 = .ok (.iload 4, 2) := by decide +kernel
theorem dL_isNearer_73 : decode cL_isNearer 73 = .ok (.iconst 1, 1) := by decide +kernel
theorem dL_isNearer_74 : decode cL_isNearer 74 = .ok (.if_icmp .ge 7, 3) := by decide +kernel
theorem dL_isNearer_77 : decode cL_isNearer 77 = .ok (.iconst 1, 1) := by decide +kernel
theorem dL_isNearer_78 : decode cL_isNearer 78 = .ok (.goto 4, 3) := by decide +kernel
theorem dL_isNearer_81 : decode cL_isNearer 81 = .ok (.iconst 0, 1) := by decide +kernel
theorem dL_isNearer_82 : decode cL_isNearer 82 = .ok (.if_icmp .ne 45, 3) := by decide +kernel
theorem dL_isNearer_85 : decode cL_isNearer 85 = .ok (.iload 4, 2) := by decide +kernel
theorem dL_isNearer_87 : decode cL_isNearer 87 = .ok (.ifCond .ne 7, 3) := by decide +kernel
theorem dL_isNearer_90 : decode cL_isNearer 90 = .ok (.iconst 1, 1) := by decide +kernel
theorem dL_isNearer_91 : decode cL_isNearer 91 = .ok (.goto 4, 3) := by decide +kernel
theorem dL_isNearer_94 : decode cL_isNearer 94 = .ok (.iconst 0, 1) := by decide +kernel
theorem dL_isNearer_95 : decode cL_isNearer 95 = .ok (.iload 6, 2) := by decide +kernel
theorem dL_isNearer_97 : decode cL_isNearer 97 = .ok (.iload_n 3, 1) := by decide +kernel
theorem dL_isNearer_98 : decode cL_isNearer 98 = .ok (.if_icmp .ne 7, 3) := by decide +kernel
theorem dL_isNearer_101 : decode cL_isNearer 101 = .ok (.iconst 1, 1) := by decide +kernel
theorem dL_isNearer_102 : decode cL_isNearer 102 = .ok (.goto 4, 3) := by decide +kernel
theorem dL_isNearer_105 : decode cL_isNearer 105 = .ok (.iconst 0, 1) := by decide +kernel
theorem dL_isNearer_106 : decode cL_isNearer 106 = .ok (.if_icmp .ne 21, 3) := by decide +kernel
theorem dL_isNearer_109 : decode cL_isNearer 109 = .ok (.iload_n 3, 1) := by decide +kernel
theorem dL_isNearer_110 : decode cL_isNearer 110 = .ok (.invokestatic 114, 3) := by decide +kernel
theorem dL_isNearer_113 : decode cL_isNearer 113 = .ok (.iconst 4, 1) := by decide +kernel
theorem dL_isNearer_114 : decode cL_isNearer 114 = .ok (.if_icmp .eq 9, 3) := by decide +kernel
theorem dL_isNearer_117 : decode cL_isNearer 117 = .ok (.iload 4, 2) := by decide +kernel
theorem dL_isNearer_119 : decode cL_isNearer 119 = .ok (.iconst (-1), 1) := by decide +kernel
theorem dL_isNearer_120 : decode cL_isNearer 120 = .ok (.if_icmp .ne 7, 3) := by decide +kernel
theorem dL_isNearer_123 : decode cL_isNearer 123 = .ok (.iconst 1, 1) := by decide +kernel
theorem dL_isNearer_124 : decode cL_isNearer 124 = .ok (.goto 4, 3) := by decide +kernel
theorem dL_isNearer_127 : decode cL_isNearer 127 = .ok (.iconst 0, 1) := by decide +kernel
theorem dL_isNearer_128 : decode cL_isNearer 128 = .ok (.ireturn, 1) := by decide +kernel
theorem dL_isNearer_129 : decode cL_isNearer 129 = .ok (.iload 5, 2) := by decide +kernel
theorem dL_isNearer_131 : decode cL_isNearer 131 = .ok (.ifCond .lt 25, 3) := by decide +kernel
theorem dL_isNearer_134 : decode cL_isNearer 134 = .ok (.iload 5, 2) := by decide +kernel
theorem dL_isNearer_136 : decode cL_isNearer 136 = .ok (.iconst 3, 1) := by decide +kernel
theorem dL_isNearer_137 : decode cL_isNearer 137 = .ok (.if_icmp .ge 19, 3) := by decide +kernel
theorem dL_isNearer_140 : decode cL_isNearer 140 = .ok (.aload_n 0, 1) := by decide +kernel
theorem dL_isNearer_141 : decode cL_isNearer 141 = .ok (.iload_n 2, 1) := by decide +kernel
theorem dL_isNearer_142 : decode cL_isNearer 142 = .ok (.iload 5, 2) := by decide +kernel
theorem dL_isNearer_144 : decode cL_isNearer 144 = .ok (.invokestatic 121, 3) := by decide +kernel
theorem dL_isNearer_147 : decode cL_isNearer 147 = .ok (.iload 6, 2) := by decide +kernel
theorem dL_isNearer_149 : decode cL_isNearer 149 = .ok (.if_icmp .eq 7, 3) := by decide +kernel
theorem dL_isNearer_152 : decode cL_isNearer 152 = .ok (.iconst 1, 1) := by decide +kernel
theorem dL_isNearer_153 : decode cL_isNearer 153 = .ok (.goto 4, 3) := by decide +kernel
theorem dL_isNearer_156 : decode cL_isNearer 156 = .ok (.iconst 0, 1) := by decide +kernel
theorem dL_isNearer_157 : decode cL_isNearer 157 = .ok (.istore 7, 2) := by decide +kernel
theorem dL_isNearer_159 : decode cL_isNearer 159 = .ok (.iload 7, 2) := by decide +kernel
theorem dL_isNearer_161 : decode cL_isNearer 161 = .ok (.ifCond .eq 20, 3) := by decide +kernel
theorem dL_isNearer_164 : decode cL_isNearer 164 = .ok (.aload_n 0, 1) := by decide +kernel
theorem dL_isNearer_165 : decode cL_isNearer 165 = .ok (.iload_n 2, 1) := by decide +kernel
theorem dL_isNearer_166 : decode cL_isNearer 166 = .ok (.iload_n 3, 1) := by decide +kernel
theorem dL_isNearer_167 : decode cL_isNearer 167 = .ok (.invokestatic 117, 3) := by decide +kernel
theorem dL_isNearer_170 : decode cL_isNearer 170 = .ok (.iload 4, 2) := by decide +kernel
theorem dL_isNearer_172 : decode cL_isNearer 172 = .ok (.iconst 1, 1) := by decide +kernel
theorem dL_isNearer_173 : decode cL_isNearer 173 = .ok (.isub, 1) := by decide +kernel
theorem dL_isNearer_174 : decode cL_isNearer 174 = .ok (.if_icmp .ne 7, 3) := by decide +kernel
theorem dL_isNearer_177 : decode cL_isNearer 177 = .ok (.iconst 1, 1) := by decide +kernel
theorem dL_isNearer_178 : decode cL_isNearer 178 = .ok (.goto 4, 3) := by decide +kernel
theorem dL_isNearer_181 : decode cL_isNearer 181 = .ok (.iconst 0, 1) := by decide +kernel
theorem dL_isNearer_182 : decode cL_isNearer 182 = .ok (.ireturn, 1) := by decide +kernel
set_option maxRecDepth 20000 in
theorem ggL_makes_L_low : GoodIn wsL_makes wsL_low := goodIn_r _ [5, 6] (by decide +kernel) (by decide +kernel)
set_option maxRecDepth 20000 in
theorem gL_makes_L_low : GoodIn wsL_makes (va_wsS RL 123 yL_low wsL_low) := goodIn_app (goodIn_of _ (by decide +kernel)) ggL_makes_L_low
set_option maxRecDepth 20000 in
theorem ggL_makes_L_melt : GoodIn wsL_makes wsL_melt := goodIn_ca (goodIn_ca (goodIn_r _ [9, 10, 11, 12, 1, 13, 14, 15, 16, 17, 18, 19, 20, 21, 22, 23, 24, 25, 26, 27, 28, 29, 30, 31, 32, 33, 34, 35, 36, 37, 38, 39, 40, 41, 42, 43, 44, 45, 46, 47, 48, 49, 50, 51, 52, 53, 54, 55, 56, 57, 58, 59, 60, 61, 62, 63, 64, 65, 66, 67, 68, 69, 70, 71, 72, 73, 74, 75, 76, 77, 78, 79, 80, 81, 82, 83, 84, 85, 86, 87, 184, 185, 186, 187, 188, 189, 190, 191, 192, 193, 194] (by decide +kernel) (by decide +kernel)) (goodIn_sub (fun _ h => List.mem_cons_of_mem _ (List.mem_append_left _ (List.mem_append_left _ (List.mem_append_right _ h)))) (by decide +kernel))) (goodIn_sub (fun _ h => List.mem_cons_of_mem _ (List.mem_append_left _ (List.mem_append_right _ h))) (by decide +kernel))
set_option maxRecDepth 20000 in
theorem gL_makes_L_melt : GoodIn wsL_makes (va_wsS RL 126 yL_melt wsL_melt) := goodIn_app (goodIn_of _ (by decide +kernel)) ggL_makes_L_melt
set_option maxRecDepth 20000 in
theorem ggL_makes_L_die : GoodIn wsL_makes wsL_die := goodIn_ca (goodIn_r _ [90, 11, 1, 91, 92, 93, 16, 94, 18, 19, 95, 96, 97, 98, 28, 29, 30, 31, 32, 33, 99, 100, 101, 102, 103, 104, 105, 106, 107, 108, 109, 70, 110, 34, 35, 36, 37, 38, 39, 40, 41, 42, 43, 44, 45, 46, 47, 48, 49, 50, 51, 52, 53, 54, 55, 56, 57, 58, 59, 60, 61, 62, 63, 64, 65, 66, 67, 68, 69, 71, 72, 73, 74, 75, 76, 77, 78, 79, 80, 81, 82, 83, 84, 85, 86, 87, 184, 185, 186, 187, 188, 189, 190, 191, 195, 196, 192, 193, 194] (by decide +kernel) (by decide +kernel)) (goodIn_sub (fun _ h => List.mem_cons_of_mem _ (List.mem_append_left _ (List.mem_append_left _ (List.mem_append_right _ h)))) (by decide +kernel))
set_option maxRecDepth 20000 in
theorem gL_makes_L_die : GoodIn wsL_makes (va_wsS RL 128 yL_die wsL_die) := goodIn_app (goodIn_of _ (by decide +kernel)) ggL_makes_L_die
set_option maxRecDepth 20000 in
theorem ggL_makes_L_billet : GoodIn wsL_makes wsL_billet := goodIn_ca (goodIn_ca (goodIn_ca (goodIn_r _ [113, 10, 114, 11, 12, 115, 1, 116, 117, 118, 16, 119, 25, 26, 120, 121, 18, 19, 20, 122, 123, 124, 125, 126, 28, 29, 30, 31, 32, 33, 127, 128, 129, 130, 131, 132, 133, 134, 135, 136, 137, 138, 139, 140, 141, 142, 40, 143, 144, 145, 146, 103, 104, 105, 147, 148, 149, 150, 151, 152, 153, 154, 155, 156, 157, 158, 159, 109, 70, 110, 34, 35, 36, 37, 38, 39, 41, 42, 43, 44, 45, 46, 47, 48, 49, 50, 51, 52, 53, 54, 55, 56, 57, 58, 59, 60, 61, 62, 63, 64, 65, 66, 67, 68, 69, 71, 72, 73, 74, 75, 76, 77, 78, 79, 80, 81, 82, 83, 84, 85, 86, 87, 184, 185, 186, 187, 188, 189, 190, 191, 197, 198, 199, 200, 201, 202, 203, 204, 205, 206, 207, 208, 209, 210, 211, 212, 213, 214, 192, 193, 194] (by decide +kernel) (by decide +kernel)) (goodIn_sub (fun _ h => List.mem_cons_of_mem _ (List.mem_append_left _ (List.mem_append_right _ h))) (by decide +kernel))) (goodIn_sub (fun _ h => List.mem_cons_of_mem _ (List.mem_append_right _ h)) (by decide +kernel))) (goodIn_sub (fun _ h => List.mem_cons_of_mem _ (List.mem_append_left _ (List.mem_append_left _ (List.mem_append_right _ h)))) (by decide +kernel))
set_option maxRecDepth 20000 in
theorem gL_makes_L_billet : GoodIn wsL_makes (va_wsS RL 131 yL_billet wsL_billet) := goodIn_app (goodIn_of _ (by decide +kernel)) ggL_makes_L_billet
set_option maxRecDepth 20000 in
theorem ggL_makes_L_billetIs : GoodIn wsL_makes wsL_billetIs := goodIn_ca (goodIn_ca (goodIn_r _ [162, 10, 114, 12, 115, 163, 164, 165, 16, 166, 120, 121, 167, 168, 169, 170, 171, 172, 173, 174, 175, 176, 177, 178, 25, 26, 122, 179, 28, 29, 30, 31, 32, 33, 127, 128, 129, 130, 131, 132, 133, 134, 135, 136, 137, 138, 139, 140, 141, 142, 40, 180, 181, 182, 125, 183, 147, 197, 198, 199, 200, 201, 202, 203, 204, 205, 206, 207, 208, 209, 210, 211, 212, 213, 214, 184, 185, 186, 187, 188, 189, 190, 191, 192, 193, 194] (by decide +kernel) (by decide +kernel)) (goodIn_sub (fun _ h => List.mem_cons_of_mem _ (List.mem_append_right _ h)) (by decide +kernel))) (goodIn_sub (fun _ h => List.mem_cons_of_mem _ (List.mem_append_left _ (List.mem_append_right _ h))) (by decide +kernel))
set_option maxRecDepth 20000 in
theorem gL_makes_L_billetIs : GoodIn wsL_makes (va_wsS RL 100 yL_billetIs wsL_billetIs) := goodIn_app (goodIn_of _ (by decide +kernel)) ggL_makes_L_billetIs
theorem dL_makes_0 : decode cL_makes 0 = .ok (.aload_n 1, 1) := by decide +kernel
theorem dL_makes_1 : decode cL_makes 1 = .ok (.iconst 0, 1) := by decide +kernel
theorem dL_makes_2 : decode cL_makes 2 = .ok (.iaload, 1) := by decide +kernel
theorem dL_makes_3 : decode cL_makes 3 = .ok (.ifCond .eq 12, 3) := by decide +kernel
theorem dL_makes_6 : decode cL_makes 6 = .ok (.iload 5, 2) := by decide +kernel
theorem dL_makes_8 : decode cL_makes 8 = .ok (.iconst 5, 1) := by decide +kernel
theorem dL_makes_9 : decode cL_makes 9 = .ok (.invokestatic 123, 3) := by decide +kernel
theorem dL_makes_12 : decode cL_makes 12 = .ok (.ifCond .ne 71, 3) := by decide +kernel
theorem dL_makes_15 : decode cL_makes 15 = .ok (.iload 6, 2) := by decide +kernel
theorem dL_makes_17 : decode cL_makes 17 = .ok (.iconst 4, 1) := by decide +kernel
theorem dL_makes_18 : decode cL_makes 18 = .ok (.invokestatic 123, 3) := by decide +kernel
theorem dL_makes_21 : decode cL_makes 21 = .ok (.istore 7, 2) := by decide +kernel
theorem dL_makes_23 : decode cL_makes 23 = .ok (.aload_n 0, 1) := by decide +kernel
theorem dL_makes_24 : decode cL_makes 24 = .ok (.iload 7, 2) := by decide +kernel
theorem dL_makes_26 : decode cL_makes 26 = .ok (.invokestatic 126, 3) := by decide +kernel
theorem dL_makes_29 : decode cL_makes 29 = .ok (.istore 8, 2) := by decide +kernel
theorem dL_makes_31 : decode cL_makes 31 = .ok (.aload_n 1, 1) := by decide +kernel
theorem dL_makes_32 : decode cL_makes 32 = .ok (.iconst 0, 1) := by decide +kernel
theorem dL_makes_33 : decode cL_makes 33 = .ok (.iaload, 1) := by decide +kernel
theorem dL_makes_34 : decode cL_makes 34 = .ok (.bipush 20, 2) := by decide +kernel
theorem dL_makes_36 : decode cL_makes 36 = .ok (.if_icmp .ne 16, 3) := by decide +kernel
theorem dL_makes_39 : decode cL_makes 39 = .ok (.iload 8, 2) := by decide +kernel
theorem dL_makes_41 : decode cL_makes 41 = .ok (.ldc 28, 2) := by decide +kernel
theorem dL_makes_43 : decode cL_makes 43 = .ok (.if_icmp .ne 7, 3) := by decide +kernel
theorem dL_makes_46 : decode cL_makes 46 = .ok (.iconst 1, 1) := by decide +kernel
theorem dL_makes_47 : decode cL_makes 47 = .ok (.goto 4, 3) := by decide +kernel
theorem dL_makes_50 : decode cL_makes 50 = .ok (.iconst 0, 1) := by decide +kernel
theorem dL_makes_51 : decode cL_makes 51 = .ok (.ireturn, 1) := by decide +kernel
theorem dL_makes_52 : decode cL_makes 52 = .ok (.aload 4, 2) := by decide +kernel
theorem dL_makes_54 : decode cL_makes 54 = .ok (.aload_n 1, 1) := by decide +kernel
theorem dL_makes_55 : decode cL_makes 55 = .ok (.iconst 0, 1) := by decide +kernel
theorem dL_makes_56 : decode cL_makes 56 = .ok (.iaload, 1) := by decide +kernel
theorem dL_makes_57 : decode cL_makes 57 = .ok (.iload 7, 2) := by decide +kernel
theorem dL_makes_59 : decode cL_makes 59 = .ok (.iastore, 1) := by decide +kernel
theorem dL_makes_60 : decode cL_makes 60 = .ok (.aload_n 1, 1) := by decide +kernel
theorem dL_makes_61 : decode cL_makes 61 = .ok (.iconst 0, 1) := by decide +kernel
theorem dL_makes_62 : decode cL_makes 62 = .ok (.dup2, 1) := by decide +kernel
theorem dL_makes_63 : decode cL_makes 63 = .ok (.iaload, 1) := by decide +kernel
theorem dL_makes_64 : decode cL_makes 64 = .ok (.iconst 1, 1) := by decide +kernel
theorem dL_makes_65 : decode cL_makes 65 = .ok (.iadd, 1) := by decide +kernel
theorem dL_makes_66 : decode cL_makes 66 = .ok (.iastore, 1) := by decide +kernel
theorem dL_makes_67 : decode cL_makes 67 = .ok (.iload 8, 2) := by decide +kernel
theorem dL_makes_69 : decode cL_makes 69 = .ok (.aload_n 1, 1) := by decide +kernel
theorem dL_makes_70 : decode cL_makes 70 = .ok (.iconst 0, 1) := by decide +kernel
theorem dL_makes_71 : decode cL_makes 71 = .ok (.iaload, 1) := by decide +kernel
theorem dL_makes_72 : decode cL_makes 72 = .ok (.iconst 1, 1) := by decide +kernel
theorem dL_makes_73 : decode cL_makes 73 = .ok (.isub, 1) := by decide +kernel
theorem dL_makes_74 : decode cL_makes 74 = .ok (.if_icmp .ne 7, 3) := by decide +kernel
theorem dL_makes_77 : decode cL_makes 77 = .ok (.iconst 1, 1) := by decide +kernel
theorem dL_makes_78 : decode cL_makes 78 = .ok (.goto 4, 3) := by decide +kernel
theorem dL_makes_81 : decode cL_makes 81 = .ok (.iconst 0, 1) := by decide +kernel
theorem dL_makes_82 : decode cL_makes 82 = .ok (.ireturn, 1) := by decide +kernel
theorem dL_makes_83 : decode cL_makes 83 = .ok (.iload 5, 2) := by decide +kernel
theorem dL_makes_85 : decode cL_makes 85 = .ok (.iconst 5, 1) := by decide +kernel
theorem dL_makes_86 : decode cL_makes 86 = .ok (.invokestatic 123, 3) := by decide +kernel
theorem dL_makes_89 : decode cL_makes 89 = .ok (.iconst 1, 1) := by decide +kernel
theorem dL_makes_90 : decode cL_makes 90 = .ok (.if_icmp .ne 57, 3) := by decide +kernel
theorem dL_makes_93 : decode cL_makes 93 = .ok (.aload_n 0, 1) := by decide +kernel
theorem dL_makes_94 : decode cL_makes 94 = .ok (.invokestatic 128, 3) := by decide +kernel
theorem dL_makes_97 : decode cL_makes 97 = .ok (.istore 7, 2) := by decide +kernel
theorem dL_makes_99 : decode cL_makes 99 = .ok (.aload_n 1, 1) := by decide +kernel
theorem dL_makes_100 : decode cL_makes 100 = .ok (.iconst 2, 1) := by decide +kernel
theorem dL_makes_101 : decode cL_makes 101 = .ok (.dup2, 1) := by decide +kernel
theorem dL_makes_102 : decode cL_makes 102 = .ok (.iaload, 1) := by decide +kernel
theorem dL_makes_103 : decode cL_makes 103 = .ok (.aload_n 1, 1) := by decide +kernel
theorem dL_makes_104 : decode cL_makes 104 = .ok (.iconst 2, 1) := by decide +kernel
theorem dL_makes_105 : decode cL_makes 105 = .ok (.iaload, 1) := by decide +kernel
theorem dL_makes_106 : decode cL_makes 106 = .ok (.iconst 4, 1) := by decide +kernel
theorem dL_makes_107 : decode cL_makes 107 = .ok (.if_icmp .ge 7, 3) := by decide +kernel
theorem dL_makes_110 : decode cL_makes 110 = .ok (.iconst 1, 1) := by decide +kernel
theorem dL_makes_111 : decode cL_makes 111 = .ok (.goto 4, 3) := by decide +kernel
theorem dL_makes_114 : decode cL_makes 114 = .ok (.iconst 0, 1) := by decide +kernel
theorem dL_makes_115 : decode cL_makes 115 = .ok (.iadd, 1) := by decide +kernel
theorem dL_makes_116 : decode cL_makes 116 = .ok (.iastore, 1) := by decide +kernel
theorem dL_makes_117 : decode cL_makes 117 = .ok (.iload 7, 2) := by decide +kernel
theorem dL_makes_119 : decode cL_makes 119 = .ok (.aload_n 1, 1) := by decide +kernel
theorem dL_makes_120 : decode cL_makes 120 = .ok (.iconst 2, 1) := by decide +kernel
theorem dL_makes_121 : decode cL_makes 121 = .ok (.iaload, 1) := by decide +kernel
theorem dL_makes_122 : decode cL_makes 122 = .ok (.iconst 1, 1) := by decide +kernel
theorem dL_makes_123 : decode cL_makes 123 = .ok (.isub, 1) := by decide +kernel
theorem dL_makes_124 : decode cL_makes 124 = .ok (.if_icmp .eq 17, 3) := by decide +kernel
theorem dL_makes_127 : decode cL_makes 127 = .ok (.iload 7, 2) := by decide +kernel
theorem dL_makes_129 : decode cL_makes 129 = .ok (.ldc 28, 2) := by decide +kernel
theorem dL_makes_131 : decode cL_makes 131 = .ok (.if_icmp .ne 14, 3) := by decide +kernel
theorem dL_makes_134 : decode cL_makes 134 = .ok (.aload_n 1, 1) := by decide +kernel
theorem dL_makes_135 : decode cL_makes 135 = .ok (.iconst 2, 1) := by decide +kernel
theorem dL_makes_136 : decode cL_makes 136 = .ok (.iaload, 1) := by decide +kernel
theorem dL_makes_137 : decode cL_makes 137 = .ok (.iconst 4, 1) := by decide +kernel
theorem dL_makes_138 : decode cL_makes 138 = .ok (.if_icmp .ne 7, 3) := by decide +kernel
theorem dL_makes_141 : decode cL_makes 141 = .ok (.iconst 1, 1) := by decide +kernel
theorem dL_makes_142 : decode cL_makes 142 = .ok (.goto 4, 3) := by decide +kernel
theorem dL_makes_145 : decode cL_makes 145 = .ok (.iconst 0, 1) := by decide +kernel
theorem dL_makes_146 : decode cL_makes 146 = .ok (.ireturn, 1) := by decide +kernel
theorem dL_makes_147 : decode cL_makes 147 = .ok (.iload 6, 2) := by decide +kernel
theorem dL_makes_149 : decode cL_makes 149 = .ok (.aload_n 1, 1) := by decide +kernel
theorem dL_makes_150 : decode cL_makes 150 = .ok (.iconst 0, 1) := by decide +kernel
theorem dL_makes_151 : decode cL_makes 151 = .ok (.iaload, 1) := by decide +kernel
theorem dL_makes_152 : decode cL_makes 152 = .ok (.invokestatic 123, 3) := by decide +kernel
theorem dL_makes_155 : decode cL_makes 155 = .ok (.istore 7, 2) := by decide +kernel
theorem dL_makes_157 : decode cL_makes 157 = .ok (.iconst 2, 1) := by decide +kernel
theorem dL_makes_158 : decode cL_makes 158 = .ok (.iload 6, 2) := by decide +kernel
theorem dL_makes_160 : decode cL_makes 160 = .ok (.iconst 5, 1) := by decide +kernel
theorem dL_makes_161 : decode cL_makes 161 = .ok (.ishr, 1) := by decide +kernel
theorem dL_makes_162 : decode cL_makes 162 = .ok (.bipush 60, 2) := by decide +kernel
theorem dL_makes_164 : decode cL_makes 164 = .ok (.invokestatic 123, 3) := by decide +kernel
theorem dL_makes_167 : decode cL_makes 167 = .ok (.iadd, 1) := by decide +kernel
theorem dL_makes_168 : decode cL_makes 168 = .ok (.istore 8, 2) := by decide +kernel
theorem dL_makes_170 : decode cL_makes 170 = .ok (.aload_n 0, 1) := by decide +kernel
theorem dL_makes_171 : decode cL_makes 171 = .ok (.iload 7, 2) := by decide +kernel
theorem dL_makes_173 : decode cL_makes 173 = .ok (.iload 8, 2) := by decide +kernel
theorem dL_makes_175 : decode cL_makes 175 = .ok (.invokestatic 131, 3) := by decide +kernel
theorem dL_makes_178 : decode cL_makes 178 = .ok (.istore 9, 2) := by decide +kernel
theorem dL_makes_180 : decode cL_makes 180 = .ok (.aload_n 1, 1) := by decide +kernel
theorem dL_makes_181 : decode cL_makes 181 = .ok (.iconst 1, 1) := by decide +kernel
theorem dL_makes_182 : decode cL_makes 182 = .ok (.iaload, 1) := by decide +kernel
theorem dL_makes_183 : decode cL_makes 183 = .ok (.bipush 12, 2) := by decide +kernel
theorem dL_makes_185 : decode cL_makes 185 = .ok (.if_icmp .ne 16, 3) := by decide +kernel
theorem dL_makes_188 : decode cL_makes 188 = .ok (.iload 9, 2) := by decide +kernel
theorem dL_makes_190 : decode cL_makes 190 = .ok (.ldc 28, 2) := by decide +kernel
theorem dL_makes_192 : decode cL_makes 192 = .ok (.if_icmp .ne 7, 3) := by decide +kernel
theorem dL_makes_195 : decode cL_makes 195 = .ok (.iconst 1, 1) := by decide +kernel
theorem dL_makes_196 : decode cL_makes 196 = .ok (.goto 4, 3) := by decide +kernel
theorem dL_makes_199 : decode cL_makes 199 = .ok (.iconst 0, 1) := by decide +kernel
theorem dL_makes_200 : decode cL_makes 200 = .ok (.ireturn, 1) := by decide +kernel
theorem dL_makes_201 : decode cL_makes 201 = .ok (.aload_n 2, 1) := by decide +kernel
theorem dL_makes_202 : decode cL_makes 202 = .ok (.aload_n 1, 1) := by decide +kernel
theorem dL_makes_203 : decode cL_makes 203 = .ok (.iconst 1, 1) := by decide +kernel
theorem dL_makes_204 : decode cL_makes 204 = .ok (.iaload, 1) := by decide +kernel
theorem dL_makes_205 : decode cL_makes 205 = .ok (.iload 7, 2) := by decide +kernel
theorem dL_makes_207 : decode cL_makes 207 = .ok (.iastore, 1) := by decide +kernel
theorem dL_makes_208 : decode cL_makes 208 = .ok (.aload_n 3, 1) := by decide +kernel
theorem dL_makes_209 : decode cL_makes 209 = .ok (.aload_n 1, 1) := by decide +kernel
theorem dL_makes_210 : decode cL_makes 210 = .ok (.iconst 1, 1) := by decide +kernel
theorem dL_makes_211 : decode cL_makes 211 = .ok (.iaload, 1) := by decide +kernel
theorem dL_makes_212 : decode cL_makes 212 = .ok (.iload 8, 2) := by decide +kernel
theorem dL_makes_214 : decode cL_makes 214 = .ok (.iastore, 1) := by decide +kernel
theorem dL_makes_215 : decode cL_makes 215 = .ok (.aload_n 1, 1) := by decide +kernel
theorem dL_makes_216 : decode cL_makes 216 = .ok (.iconst 1, 1) := by decide +kernel
theorem dL_makes_217 : decode cL_makes 217 = .ok (.dup2, 1) := by decide +kernel
theorem dL_makes_218 : decode cL_makes 218 = .ok (.iaload, 1) := by decide +kernel
theorem dL_makes_219 : decode cL_makes 219 = .ok (.iconst 1, 1) := by decide +kernel
theorem dL_makes_220 : decode cL_makes 220 = .ok (.iadd, 1) := by decide +kernel
theorem dL_makes_221 : decode cL_makes 221 = .ok (.iastore, 1) := by decide +kernel
theorem dL_makes_222 : decode cL_makes 222 = .ok (.iload 9, 2) := by decide +kernel
theorem dL_makes_224 : decode cL_makes 224 = .ok (.aload_n 1, 1) := by decide +kernel
theorem dL_makes_225 : decode cL_makes 225 = .ok (.iconst 1, 1) := by decide +kernel
theorem dL_makes_226 : decode cL_makes 226 = .ok (.iaload, 1) := by decide +kernel
theorem dL_makes_227 : decode cL_makes 227 = .ok (.iconst 1, 1) := by decide +kernel
theorem dL_makes_228 : decode cL_makes 228 = .ok (.isub, 1) := by decide +kernel
theorem dL_makes_229 : decode cL_makes 229 = .ok (.if_icmp .ne 21, 3) := by decide +kernel
theorem dL_makes_232 : decode cL_makes 232 = .ok (.aload_n 0, 1) := by decide +kernel
theorem dL_makes_233 : decode cL_makes 233 = .ok (.iload 9, 2) := by decide +kernel
theorem dL_makes_235 : decode cL_makes 235 = .ok (.bipush 7, 2) := by decide +kernel
theorem dL_makes_237 : decode cL_makes 237 = .ok (.invokestatic 100, 3) := by decide +kernel
theorem dL_makes_240 : decode cL_makes 240 = .ok (.sipush 240, 3) := by decide +kernel
theorem dL_makes_243 : decode cL_makes 243 = .ok (.if_icmp .ne 7, 3) := by decide +kernel
theorem dL_makes_246 : decode cL_makes 246 = .ok (.iconst 1, 1) := by decide +kernel
theorem dL_makes_247 : decode cL_makes 247 = .ok (.goto 4, 3) := by decide +kernel
theorem dL_makes_250 : decode cL_makes 250 = .ok (.iconst 0, 1) := by decide +kernel
theorem dL_makes_251 : decode cL_makes 251 = .ok (.ireturn, 1) := by decide +kernel
set_option maxRecDepth 20000 in
theorem ggL_heats_L_low : GoodIn wsL_heats wsL_low := goodIn_r _ [5, 6] (by decide +kernel) (by decide +kernel)
set_option maxRecDepth 20000 in
theorem gL_heats_L_low : GoodIn wsL_heats (va_wsS RL 123 yL_low wsL_low) := goodIn_app (goodIn_of _ (by decide +kernel)) ggL_heats_L_low
set_option maxRecDepth 20000 in
theorem ggL_heats_L_heat : GoodIn wsL_heats wsL_heat := goodIn_ca (goodIn_ca (goodIn_ca (goodIn_r _ [9, 10, 11, 12, 13, 14, 1, 15, 16, 17, 18, 19, 20, 21, 22, 23, 24, 25, 26, 27, 28, 29, 30, 31, 32, 33, 34, 35, 36, 37, 38, 39, 40, 41, 42, 43, 44, 45, 46, 47, 48, 49, 50, 51, 52, 53, 54, 55, 56, 57, 58, 59, 60, 61, 62, 63, 64, 65, 66, 67, 68, 69, 70, 71, 72, 73, 74, 75, 76, 77, 78, 79, 80, 81, 82, 83, 84, 85, 150, 151, 152, 153, 154, 155, 156, 157, 158, 159, 160, 161, 162, 163, 164, 165, 166, 167, 168, 169, 170, 171, 172, 173, 174, 175, 176, 177, 178, 179, 180, 181] (by decide +kernel) (by decide +kernel)) (goodIn_sub (fun _ h => List.mem_cons_of_mem _ (List.mem_append_left _ (List.mem_append_left _ (List.mem_append_right _ h)))) (by decide +kernel))) (goodIn_sub (fun _ h => List.mem_cons_of_mem _ (List.mem_append_left _ (List.mem_append_right _ h))) (by decide +kernel))) (goodIn_sub (fun _ h => List.mem_cons_of_mem _ (List.mem_append_right _ h)) (by decide +kernel))
set_option maxRecDepth 20000 in
theorem gL_heats_L_heat : GoodIn wsL_heats (va_wsS RL 133 yL_heat wsL_heat) := goodIn_app (goodIn_of _ (by decide +kernel)) ggL_heats_L_heat
set_option maxRecDepth 20000 in
theorem ggL_heats_L_billetIs : GoodIn wsL_heats wsL_billetIs := goodIn_ca (goodIn_ca (goodIn_r _ [88, 10, 11, 13, 14, 89, 90, 91, 18, 92, 20, 21, 93, 27, 24, 94, 95, 96, 97, 98, 28, 29, 30, 31, 32, 33, 34, 35, 36, 37, 38, 39, 40, 41, 42, 43, 44, 45, 46, 47, 48, 49, 50, 51, 52, 53, 54, 55, 56, 57, 58, 99, 100, 101, 65, 102, 84, 150, 151, 152, 153, 154, 155, 156, 157, 158, 159, 160, 161, 162, 163, 164, 165, 166, 167, 171, 172, 173, 174, 175, 176, 177, 178, 179, 180, 181] (by decide +kernel) (by decide +kernel)) (goodIn_sub (fun _ h => List.mem_cons_of_mem _ (List.mem_append_left _ (List.mem_append_left _ (List.mem_append_right _ h)))) (by decide +kernel))) (goodIn_sub (fun _ h => List.mem_cons_of_mem _ (List.mem_append_right _ h)) (by decide +kernel))
set_option maxRecDepth 20000 in
theorem gL_heats_L_billetIs : GoodIn wsL_heats (va_wsS RL 100 yL_billetIs wsL_billetIs) := goodIn_app (goodIn_of _ (by decide +kernel)) ggL_heats_L_billetIs
set_option maxRecDepth 20000 in
theorem ggL_heats_L_hardness : GoodIn wsL_heats wsL_hardness := goodIn_ca (goodIn_r _ [105, 10, 13, 106, 107, 108, 18, 109, 28, 29, 30, 31, 32, 33, 34, 35, 36, 37, 38, 39, 40, 41, 42, 43, 44, 45, 46, 47, 48, 49, 50, 51, 52, 53, 54, 55, 56, 57, 58, 110, 111, 112, 113, 114, 115, 65, 116, 68, 117, 118, 119, 120, 74, 121, 171, 172, 173, 174, 175, 176, 177, 178, 179, 180, 181, 150, 151, 152, 153, 154, 155, 156, 157, 158, 159, 160, 161, 162, 163, 164, 165, 166, 167] (by decide +kernel) (by decide +kernel)) (goodIn_sub (fun _ h => List.mem_cons_of_mem _ (List.mem_append_right _ h)) (by decide +kernel))
set_option maxRecDepth 20000 in
theorem gL_heats_L_hardness : GoodIn wsL_heats (va_wsS RL 110 yL_hardness wsL_hardness) := goodIn_app (goodIn_of _ (by decide +kernel)) ggL_heats_L_hardness
set_option maxRecDepth 20000 in
theorem ggL_heats_L_temper : GoodIn wsL_heats wsL_temper := goodIn_ca (goodIn_ca (goodIn_ca (goodIn_r _ [124, 10, 11, 12, 13, 14, 1, 125, 126, 127, 18, 128, 20, 21, 22, 23, 98, 129, 130, 120, 74, 121, 28, 29, 30, 31, 32, 33, 34, 35, 36, 37, 38, 39, 40, 41, 42, 43, 44, 45, 46, 47, 48, 49, 50, 51, 52, 53, 54, 55, 56, 57, 58, 131, 132, 133, 134, 135, 136, 137, 138, 65, 139, 72, 73, 75, 140, 114, 115, 116, 68, 117, 118, 119, 150, 151, 152, 153, 154, 155, 156, 157, 158, 159, 160, 161, 162, 163, 164, 165, 166, 167, 171, 172, 173, 174, 175, 176, 177, 178, 179, 180, 181] (by decide +kernel) (by decide +kernel)) (goodIn_sub (fun _ h => List.mem_cons_of_mem _ (List.mem_append_left _ (List.mem_append_left _ (List.mem_append_right _ h)))) (by decide +kernel))) (goodIn_sub (fun _ h => List.mem_cons_of_mem _ (List.mem_append_left _ (List.mem_append_right _ h))) (by decide +kernel))) (goodIn_sub (fun _ h => List.mem_cons_of_mem _ (List.mem_append_right _ h)) (by decide +kernel))
set_option maxRecDepth 20000 in
theorem gL_heats_L_temper : GoodIn wsL_heats (va_wsS RL 136 yL_temper wsL_temper) := goodIn_app (goodIn_of _ (by decide +kernel)) ggL_heats_L_temper
set_option maxRecDepth 20000 in
theorem ggL_heats_L_test : GoodIn wsL_heats wsL_test := goodIn_ca (goodIn_ca (goodIn_r _ [143, 10, 12, 13, 1, 144, 145, 146, 18, 147, 22, 23, 98, 135, 148, 149, 28, 29, 30, 31, 32, 33, 34, 35, 36, 37, 38, 39, 40, 41, 42, 43, 44, 45, 46, 47, 48, 49, 50, 51, 52, 53, 54, 55, 56, 57, 58, 131, 132, 133, 134, 136, 137, 138, 65, 139, 72, 73, 74, 75, 140, 114, 115, 116, 68, 117, 118, 119, 120, 121, 150, 151, 152, 153, 154, 155, 156, 157, 158, 159, 160, 161, 162, 163, 164, 165, 166, 167, 171, 172, 173, 174, 175, 176, 177, 178, 179, 180, 181] (by decide +kernel) (by decide +kernel)) (goodIn_sub (fun _ h => List.mem_cons_of_mem _ (List.mem_append_left _ (List.mem_append_right _ h))) (by decide +kernel))) (goodIn_sub (fun _ h => List.mem_cons_of_mem _ (List.mem_append_right _ h)) (by decide +kernel))
set_option maxRecDepth 20000 in
theorem gL_heats_L_test : GoodIn wsL_heats (va_wsS RL 138 yL_test wsL_test) := goodIn_app (goodIn_of _ (by decide +kernel)) ggL_heats_L_test
theorem dL_heats_0 : decode cL_heats 0 = .ok (.sipush 200, 3) := by decide +kernel
theorem dL_heats_3 : decode cL_heats 3 = .ok (.iload_n 3, 1) := by decide +kernel
theorem dL_heats_4 : decode cL_heats 4 = .ok (.sipush 1101, 3) := by decide +kernel
theorem dL_heats_7 : decode cL_heats 7 = .ok (.invokestatic 123, 3) := by decide +kernel
theorem dL_heats_10 : decode cL_heats 10 = .ok (.iadd, 1) := by decide +kernel
theorem dL_heats_11 : decode cL_heats 11 = .ok (.istore 4, 2) := by decide +kernel
theorem dL_heats_13 : decode cL_heats 13 = .ok (.aload_n 0, 1) := by decide +kernel
theorem dL_heats_14 : decode cL_heats 14 = .ok (.iload_n 2, 1) := by decide +kernel
theorem dL_heats_15 : decode cL_heats 15 = .ok (.iload 4, 2) := by decide +kernel
theorem dL_heats_17 : decode cL_heats 17 = .ok (.iconst 1, 1) := by decide +kernel
theorem dL_heats_18 : decode cL_heats 18 = .ok (.iload_n 3, 1) := by decide +kernel
theorem dL_heats_19 : decode cL_heats 19 = .ok (.bipush 11, 2) := by decide +kernel
theorem dL_heats_21 : decode cL_heats 21 = .ok (.ishr, 1) := by decide +kernel
theorem dL_heats_22 : decode cL_heats 22 = .ok (.bipush 40, 2) := by decide +kernel
theorem dL_heats_24 : decode cL_heats 24 = .ok (.invokestatic 123, 3) := by decide +kernel
theorem dL_heats_27 : decode cL_heats 27 = .ok (.iadd, 1) := by decide +kernel
theorem dL_heats_28 : decode cL_heats 28 = .ok (.invokestatic 133, 3) := by decide +kernel
theorem dL_heats_31 : decode cL_heats 31 = .ok (.istore 5, 2) := by decide +kernel
theorem dL_heats_33 : decode cL_heats 33 = .ok (.iload 5, 2) := by decide +kernel
theorem dL_heats_35 : decode cL_heats 35 = .ok (.ldc 28, 2) := by decide +kernel
theorem dL_heats_37 : decode cL_heats 37 = .ok (.if_icmp .ne 15, 3) := by decide +kernel
theorem dL_heats_40 : decode cL_heats 40 = .ok (.aload_n 1, 1) := by decide +kernel
theorem dL_heats_41 : decode cL_heats 41 = .ok (.iload_n 2, 1) := by decide +kernel
theorem dL_heats_42 : decode cL_heats 42 = .ok (.iaload, 1) := by decide +kernel
theorem dL_heats_43 : decode cL_heats 43 = .ok (.ifCond .le 7, 3) := by decide +kernel
theorem dL_heats_46 : decode cL_heats 46 = .ok (.iconst 1, 1) := by decide +kernel
theorem dL_heats_47 : decode cL_heats 47 = .ok (.goto 4, 3) := by decide +kernel
theorem dL_heats_50 : decode cL_heats 50 = .ok (.iconst 0, 1) := by decide +kernel
theorem dL_heats_51 : decode cL_heats 51 = .ok (.ireturn, 1) := by decide +kernel
theorem dL_heats_52 : decode cL_heats 52 = .ok (.aload_n 1, 1) := by decide +kernel
theorem dL_heats_53 : decode cL_heats 53 = .ok (.iload_n 2, 1) := by decide +kernel
theorem dL_heats_54 : decode cL_heats 54 = .ok (.dup2, 1) := by decide +kernel
theorem dL_heats_55 : decode cL_heats 55 = .ok (.iaload, 1) := by decide +kernel
theorem dL_heats_56 : decode cL_heats 56 = .ok (.iconst 1, 1) := by decide +kernel
theorem dL_heats_57 : decode cL_heats 57 = .ok (.iadd, 1) := by decide +kernel
theorem dL_heats_58 : decode cL_heats 58 = .ok (.iastore, 1) := by decide +kernel
theorem dL_heats_59 : decode cL_heats 59 = .ok (.iload 5, 2) := by decide +kernel
theorem dL_heats_61 : decode cL_heats 61 = .ok (.aload_n 0, 1) := by decide +kernel
theorem dL_heats_62 : decode cL_heats 62 = .ok (.iload_n 2, 1) := by decide +kernel
theorem dL_heats_63 : decode cL_heats 63 = .ok (.iconst 1, 1) := by decide +kernel
theorem dL_heats_64 : decode cL_heats 64 = .ok (.invokestatic 100, 3) := by decide +kernel
theorem dL_heats_67 : decode cL_heats 67 = .ok (.if_icmp .ne 50, 3) := by decide +kernel
theorem dL_heats_70 : decode cL_heats 70 = .ok (.aload_n 0, 1) := by decide +kernel
theorem dL_heats_71 : decode cL_heats 71 = .ok (.iload_n 2, 1) := by decide +kernel
theorem dL_heats_72 : decode cL_heats 72 = .ok (.bipush 8, 2) := by decide +kernel
theorem dL_heats_74 : decode cL_heats 74 = .ok (.invokestatic 100, 3) := by decide +kernel
theorem dL_heats_77 : decode cL_heats 77 = .ok (.iconst (-1), 1) := by decide +kernel
theorem dL_heats_78 : decode cL_heats 78 = .ok (.if_icmp .ne 39, 3) := by decide +kernel
theorem dL_heats_81 : decode cL_heats 81 = .ok (.aload_n 0, 1) := by decide +kernel
theorem dL_heats_82 : decode cL_heats 82 = .ok (.iload_n 2, 1) := by decide +kernel
theorem dL_heats_83 : decode cL_heats 83 = .ok (.iconst 0, 1) := by decide +kernel
theorem dL_heats_84 : decode cL_heats 84 = .ok (.invokestatic 110, 3) := by decide +kernel
theorem dL_heats_87 : decode cL_heats 87 = .ok (.ifCond .ne 30, 3) := by decide +kernel
theorem dL_heats_90 : decode cL_heats 90 = .ok (.aload_n 0, 1) := by decide +kernel
theorem dL_heats_91 : decode cL_heats 91 = .ok (.iload_n 2, 1) := by decide +kernel
theorem dL_heats_92 : decode cL_heats 92 = .ok (.sipush 200, 3) := by decide +kernel
theorem dL_heats_95 : decode cL_heats 95 = .ok (.invokestatic 136, 3) := by decide +kernel
theorem dL_heats_98 : decode cL_heats 98 = .ok (.ldc 28, 2) := by decide +kernel
theorem dL_heats_100 : decode cL_heats 100 = .ok (.if_icmp .ne 17, 3) := by decide +kernel
theorem dL_heats_103 : decode cL_heats 103 = .ok (.aload_n 0, 1) := by decide +kernel
theorem dL_heats_104 : decode cL_heats 104 = .ok (.iload_n 2, 1) := by decide +kernel
theorem dL_heats_105 : decode cL_heats 105 = .ok (.invokestatic 138, 3) := by decide +kernel
theorem dL_heats_108 : decode cL_heats 108 = .ok (.ldc 28, 2) := by decide +kernel
theorem dL_heats_110 : decode cL_heats 110 = .ok (.if_icmp .ne 7, 3) := by decide +kernel
theorem dL_heats_113 : decode cL_heats 113 = .ok (.iconst 1, 1) := by decide +kernel
theorem dL_heats_114 : decode cL_heats 114 = .ok (.goto 4, 3) := by decide +kernel
theorem dL_heats_117 : decode cL_heats 117 = .ok (.iconst 0, 1) := by decide +kernel
theorem dL_heats_118 : decode cL_heats 118 = .ok (.ireturn, 1) := by decide +kernel
set_option maxRecDepth 20000 in
theorem ggL_works_L_low : GoodIn wsL_works wsL_low := goodIn_r _ [6, 7] (by decide +kernel) (by decide +kernel)
set_option maxRecDepth 20000 in
theorem gL_works_L_low : GoodIn wsL_works (va_wsS RL 123 yL_low wsL_low) := goodIn_app (goodIn_of _ (by decide +kernel)) ggL_works_L_low
set_option maxRecDepth 20000 in
theorem ggL_works_L_billetIs : GoodIn wsL_works wsL_billetIs := goodIn_ca (goodIn_ca (goodIn_r _ [10, 11, 12, 2, 13, 14, 15, 16, 17, 18, 19, 20, 21, 22, 23, 24, 25, 26, 27, 28, 29, 30, 31, 32, 33, 34, 35, 36, 37, 38, 39, 40, 41, 42, 43, 44, 45, 46, 47, 48, 49, 50, 51, 52, 53, 54, 55, 56, 57, 58, 59, 60, 61, 62, 63, 64, 65, 180, 181, 182, 183, 184, 185, 186, 187, 188, 189, 190, 191, 192, 193, 194, 195, 196, 197, 198, 199, 200, 201, 202, 203, 204, 205, 206, 207, 208] (by decide +kernel) (by decide +kernel)) (goodIn_sub (fun _ h => List.mem_cons_of_mem _ (List.mem_append_left _ (List.mem_append_left _ (List.mem_append_right _ h)))) (by decide +kernel))) (goodIn_sub (fun _ h => List.mem_cons_of_mem _ (List.mem_append_left _ (List.mem_append_right _ h))) (by decide +kernel))
set_option maxRecDepth 20000 in
theorem gL_works_L_billetIs : GoodIn wsL_works (va_wsS RL 100 yL_billetIs wsL_billetIs) := goodIn_app (goodIn_of _ (by decide +kernel)) ggL_works_L_billetIs
set_option maxRecDepth 20000 in
theorem ggL_works_L_blow : GoodIn wsL_works wsL_blow := goodIn_ca (goodIn_ca (goodIn_ca (goodIn_r _ [68, 11, 12, 69, 2, 13, 1, 70, 71, 72, 17, 73, 19, 20, 74, 75, 26, 29, 30, 31, 32, 33, 34, 35, 36, 37, 38, 39, 40, 41, 42, 43, 44, 45, 46, 47, 48, 49, 50, 51, 52, 53, 54, 55, 56, 57, 58, 59, 76, 77, 78, 79, 80, 81, 82, 83, 84, 63, 85, 86, 87, 65, 88, 89, 90, 91, 92, 93, 94, 95, 96, 97, 98, 99, 100, 101, 102, 103, 104, 105, 106, 107, 180, 181, 182, 183, 184, 185, 186, 187, 188, 189, 190, 191, 192, 193, 194, 195, 196, 197, 198, 199, 200, 201, 202, 203, 204, 205, 206, 207, 208] (by decide +kernel) (by decide +kernel)) (goodIn_sub (fun _ h => List.mem_cons_of_mem _ (List.mem_append_left _ (List.mem_append_left _ (List.mem_append_right _ h)))) (by decide +kernel))) (goodIn_sub (fun _ h => List.mem_cons_of_mem _ (List.mem_append_right _ h)) (by decide +kernel))) (goodIn_sub (fun _ h => List.mem_cons_of_mem _ (List.mem_append_left _ (List.mem_append_right _ h))) (by decide +kernel))
set_option maxRecDepth 20000 in
theorem gL_works_L_blow : GoodIn wsL_works (va_wsS RL 140 yL_blow wsL_blow) := goodIn_app (goodIn_of _ (by decide +kernel)) ggL_works_L_blow
set_option maxRecDepth 20000 in
theorem ggL_works_L_cut : GoodIn wsL_works wsL_cut := goodIn_ca (goodIn_ca (goodIn_r _ [110, 11, 12, 2, 13, 111, 112, 113, 17, 114, 19, 20, 115, 116, 89, 90, 91, 117, 29, 30, 31, 32, 33, 34, 35, 36, 37, 38, 39, 40, 41, 42, 43, 44, 45, 46, 47, 48, 49, 50, 51, 52, 53, 54, 55, 56, 57, 58, 59, 76, 77, 78, 180, 181, 182, 183, 184, 185, 186, 187, 188, 189, 190, 191, 192, 193, 194, 195, 196, 197, 198, 199, 200, 201, 202, 203, 204, 205, 206, 207, 208] (by decide +kernel) (by decide +kernel)) (goodIn_sub (fun _ h => List.mem_cons_of_mem _ (List.mem_append_left _ (List.mem_append_left _ (List.mem_append_right _ h)))) (by decide +kernel))) (goodIn_sub (fun _ h => List.mem_cons_of_mem _ (List.mem_append_left _ (List.mem_append_right _ h))) (by decide +kernel))
set_option maxRecDepth 20000 in
theorem gL_works_L_cut : GoodIn wsL_works (va_wsS RL 143 yL_cut wsL_cut) := goodIn_app (goodIn_of _ (by decide +kernel)) ggL_works_L_cut
set_option maxRecDepth 20000 in
theorem ggL_works_L_shape : GoodIn wsL_works wsL_shape := goodIn_ca (goodIn_ca (goodIn_r _ [120, 11, 12, 2, 13, 121, 122, 123, 17, 124, 19, 20, 125, 126, 127, 128, 129, 33, 34, 130, 131, 37, 38, 39, 40, 41, 42, 43, 44, 45, 46, 47, 48, 49, 50, 51, 52, 53, 54, 55, 56, 57, 58, 59, 76, 77, 78, 209, 210, 198, 199, 200, 201, 202, 203, 204, 205, 206, 207, 208] (by decide +kernel) (by decide +kernel)) (goodIn_sub (fun _ h => List.mem_cons_of_mem _ (List.mem_append_left _ (List.mem_append_left _ (List.mem_append_right _ h)))) (by decide +kernel))) (goodIn_sub (fun _ h => List.mem_cons_of_mem _ (List.mem_append_left _ (List.mem_append_right _ h))) (by decide +kernel))
set_option maxRecDepth 20000 in
theorem gL_works_L_shape : GoodIn wsL_works (va_wsS RL 145 yL_shape wsL_shape) := goodIn_app (goodIn_of _ (by decide +kernel)) ggL_works_L_shape
set_option maxRecDepth 20000 in
theorem ggL_works_L_press : GoodIn wsL_works wsL_press := goodIn_ca (goodIn_ca (goodIn_ca (goodIn_r _ [134, 11, 12, 69, 2, 13, 1, 135, 136, 137, 17, 138, 19, 20, 74, 75, 26, 139, 29, 30, 31, 32, 33, 34, 35, 36, 37, 38, 39, 40, 41, 42, 43, 44, 45, 46, 47, 48, 49, 50, 51, 52, 53, 54, 55, 56, 57, 58, 59, 126, 127, 128, 129, 130, 131, 140, 141, 142, 63, 143, 86, 87, 144, 145, 146, 147, 65, 148, 149, 150, 151, 152, 153, 154, 155, 156, 157, 158, 159, 160, 161, 162, 163, 95, 90, 96, 99, 100, 101, 102, 103, 104, 105, 106, 107, 164, 165, 166, 167, 168, 169, 170, 171, 172, 180, 181, 182, 183, 184, 185, 186, 187, 188, 189, 190, 191, 192, 193, 194, 195, 196, 197, 209, 210, 198, 199, 200, 201, 202, 203, 204, 205, 206, 207, 208] (by decide +kernel) (by decide +kernel)) (goodIn_sub (fun _ h => List.mem_cons_of_mem _ (List.mem_append_left _ (List.mem_append_left _ (List.mem_append_right _ h)))) (by decide +kernel))) (goodIn_sub (fun _ h => List.mem_cons_of_mem _ (List.mem_append_right _ h)) (by decide +kernel))) (goodIn_sub (fun _ h => List.mem_cons_of_mem _ (List.mem_append_left _ (List.mem_append_right _ h))) (by decide +kernel))
set_option maxRecDepth 20000 in
theorem gL_works_L_press : GoodIn wsL_works (va_wsS RL 147 yL_press wsL_press) := goodIn_app (goodIn_of _ (by decide +kernel)) ggL_works_L_press
set_option maxRecDepth 20000 in
theorem ggL_works_L_sink : GoodIn wsL_works wsL_sink := goodIn_ca (goodIn_r _ [175, 11, 2, 176, 177, 178, 17, 179, 139, 126, 127, 128, 129, 33, 34, 130, 131, 37, 38, 39, 40, 41, 42, 43, 44, 45, 46, 47, 48, 49, 50, 51, 52, 53, 54, 55, 56, 57, 58, 59, 209, 210, 198, 199, 200, 201, 202, 203, 204, 205, 206, 207, 208] (by decide +kernel) (by decide +kernel)) (goodIn_sub (fun _ h => List.mem_cons_of_mem _ (List.mem_append_left _ (List.mem_append_right _ h))) (by decide +kernel))
set_option maxRecDepth 20000 in
theorem gL_works_L_sink : GoodIn wsL_works (va_wsS RL 149 yL_sink wsL_sink) := goodIn_app (goodIn_of _ (by decide +kernel)) ggL_works_L_sink
theorem dL_works_0 : decode cL_works 0 = .ok (.iload_n 3, 1) := by decide +kernel
theorem dL_works_1 : decode cL_works 1 = .ok (.iconst 4, 1) := by decide +kernel
theorem dL_works_2 : decode cL_works 2 = .ok (.invokestatic 123, 3) := by decide +kernel
theorem dL_works_5 : decode cL_works 5 = .ok (.istore 5, 2) := by decide +kernel
theorem dL_works_7 : decode cL_works 7 = .ok (.iload 4, 2) := by decide +kernel
theorem dL_works_9 : decode cL_works 9 = .ok (.bipush 8, 2) := by decide +kernel
theorem dL_works_11 : decode cL_works 11 = .ok (.invokestatic 123, 3) := by decide +kernel
theorem dL_works_14 : decode cL_works 14 = .ok (.istore 6, 2) := by decide +kernel
theorem dL_works_16 : decode cL_works 16 = .ok (.aload_n 0, 1) := by decide +kernel
theorem dL_works_17 : decode cL_works 17 = .ok (.iload_n 2, 1) := by decide +kernel
theorem dL_works_18 : decode cL_works 18 = .ok (.iconst 2, 1) := by decide +kernel
theorem dL_works_19 : decode cL_works 19 = .ok (.invokestatic 100, 3) := by decide +kernel
theorem dL_works_22 : decode cL_works 22 = .ok (.istore 7, 2) := by decide +kernel
theorem dL_works_24 : decode cL_works 24 = .ok (.aload_n 0, 1) := by decide +kernel
theorem dL_works_25 : decode cL_works 25 = .ok (.iload_n 2, 1) := by decide +kernel
theorem dL_works_26 : decode cL_works 26 = .ok (.bipush 6, 2) := by decide +kernel
theorem dL_works_28 : decode cL_works 28 = .ok (.invokestatic 100, 3) := by decide +kernel
theorem dL_works_31 : decode cL_works 31 = .ok (.istore 8, 2) := by decide +kernel
theorem dL_works_33 : decode cL_works 33 = .ok (.aload_n 0, 1) := by decide +kernel
theorem dL_works_34 : decode cL_works 34 = .ok (.iload_n 2, 1) := by decide +kernel
theorem dL_works_35 : decode cL_works 35 = .ok (.iconst 1, 1) := by decide +kernel
theorem dL_works_36 : decode cL_works 36 = .ok (.invokestatic 100, 3) := by decide +kernel
theorem dL_works_39 : decode cL_works 39 = .ok (.istore 9, 2) := by decide +kernel
theorem dL_works_41 : decode cL_works 41 = .ok (.iload 5, 2) := by decide +kernel
theorem dL_works_43 : decode cL_works 43 = .ok (.ifCond .ne 141, 3) := by decide +kernel
theorem dL_works_46 : decode cL_works 46 = .ok (.iconst 1, 1) := by decide +kernel
theorem dL_works_47 : decode cL_works 47 = .ok (.iload 4, 2) := by decide +kernel
theorem dL_works_49 : decode cL_works 49 = .ok (.iconst 3, 1) := by decide +kernel
theorem dL_works_50 : decode cL_works 50 = .ok (.ishr, 1) := by decide +kernel
theorem dL_works_51 : decode cL_works 51 = .ok (.bipush 20, 2) := by decide +kernel
theorem dL_works_53 : decode cL_works 53 = .ok (.invokestatic 123, 3) := by decide +kernel
theorem dL_works_56 : decode cL_works 56 = .ok (.iadd, 1) := by decide +kernel
theorem dL_works_57 : decode cL_works 57 = .ok (.istore 10, 2) := by decide +kernel
theorem dL_works_59 : decode cL_works 59 = .ok (.aload_n 0, 1) := by decide +kernel
theorem dL_works_60 : decode cL_works 60 = .ok (.iload_n 2, 1) := by decide +kernel
theorem dL_works_61 : decode cL_works 61 = .ok (.iload 6, 2) := by decide +kernel
theorem dL_works_63 : decode cL_works 63 = .ok (.iload 4, 2) := by decide +kernel
theorem dL_works_65 : decode cL_works 65 = .ok (.bipush 8, 2) := by decide +kernel
theorem dL_works_67 : decode cL_works 67 = .ok (.ishr, 1) := by decide +kernel
theorem dL_works_68 : decode cL_works 68 = .ok (.iconst 2, 1) := by decide +kernel
theorem dL_works_69 : decode cL_works 69 = .ok (.invokestatic 123, 3) := by decide +kernel
theorem dL_works_72 : decode cL_works 72 = .ok (.iload 10, 2) := by decide +kernel
theorem dL_works_74 : decode cL_works 74 = .ok (.invokestatic 140, 3) := by decide +kernel
theorem dL_works_77 : decode cL_works 77 = .ok (.istore 11, 2) := by decide +kernel
theorem dL_works_79 : decode cL_works 79 = .ok (.iload 8, 2) := by decide +kernel
theorem dL_works_81 : decode cL_works 81 = .ok (.iconst 1, 1) := by decide +kernel
theorem dL_works_82 : decode cL_works 82 = .ok (.if_icmp .ne 18, 3) := by decide +kernel
theorem dL_works_85 : decode cL_works 85 = .ok (.iload 11, 2) := by decide +kernel
theorem dL_works_87 : decode cL_works 87 = .ok (.ldc 28, 2) := by decide +kernel
theorem dL_works_89 : decode cL_works 89 = .ok (.if_icmp .ne 7, 3) := by decide +kernel
theorem dL_works_92 : decode cL_works 92 = .ok (.iconst 1, 1) := by decide +kernel
theorem dL_works_93 : decode cL_works 93 = .ok (.goto 67, 3) := by decide +kernel
theorem dL_works_96 : decode cL_works 96 = .ok (.iconst 0, 1) := by decide +kernel
theorem dL_works_97 : decode cL_works 97 = .ok (.goto 63, 3) := by decide +kernel
theorem dL_works_100 : decode cL_works 100 = .ok (.iload 9, 2) := by decide +kernel
theorem dL_works_102 : decode cL_works 102 = .ok (.sipush 700, 3) := by decide +kernel
theorem dL_works_105 : decode cL_works 105 = .ok (.if_icmp .ge 28, 3) := by decide +kernel
theorem dL_works_108 : decode cL_works 108 = .ok (.iload 11, 2) := by decide +kernel
theorem dL_works_110 : decode cL_works 110 = .ok (.iconst (-1), 1) := by decide +kernel
theorem dL_works_111 : decode cL_works 111 = .ok (.if_icmp .ne 18, 3) := by decide +kernel
theorem dL_works_114 : decode cL_works 114 = .ok (.aload_n 0, 1) := by decide +kernel
theorem dL_works_115 : decode cL_works 115 = .ok (.iload_n 2, 1) := by decide +kernel
theorem dL_works_116 : decode cL_works 116 = .ok (.bipush 6, 2) := by decide +kernel
theorem dL_works_118 : decode cL_works 118 = .ok (.invokestatic 100, 3) := by decide +kernel
theorem dL_works_121 : decode cL_works 121 = .ok (.iconst 1, 1) := by decide +kernel
theorem dL_works_122 : decode cL_works 122 = .ok (.if_icmp .ne 7, 3) := by decide +kernel
theorem dL_works_125 : decode cL_works 125 = .ok (.iconst 1, 1) := by decide +kernel
theorem dL_works_126 : decode cL_works 126 = .ok (.goto 34, 3) := by decide +kernel
theorem dL_works_129 : decode cL_works 129 = .ok (.iconst 0, 1) := by decide +kernel
theorem dL_works_130 : decode cL_works 130 = .ok (.goto 30, 3) := by decide +kernel
theorem dL_works_133 : decode cL_works 133 = .ok (.iload 11, 2) := by decide +kernel
theorem dL_works_135 : decode cL_works 135 = .ok (.ifCond .lt 24, 3) := by decide +kernel
theorem dL_works_138 : decode cL_works 138 = .ok (.iload 11, 2) := by decide +kernel
theorem dL_works_140 : decode cL_works 140 = .ok (.iload 10, 2) := by decide +kernel
theorem dL_works_142 : decode cL_works 142 = .ok (.if_icmp .gt 17, 3) := by decide +kernel
theorem dL_works_145 : decode cL_works 145 = .ok (.aload_n 0, 1) := by decide +kernel
theorem dL_works_146 : decode cL_works 146 = .ok (.iload_n 2, 1) := by decide +kernel
theorem dL_works_147 : decode cL_works 147 = .ok (.bipush 6, 2) := by decide +kernel
theorem dL_works_149 : decode cL_works 149 = .ok (.invokestatic 100, 3) := by decide +kernel
theorem dL_works_152 : decode cL_works 152 = .ok (.ifCond .ne 7, 3) := by decide +kernel
theorem dL_works_155 : decode cL_works 155 = .ok (.iconst 1, 1) := by decide +kernel
theorem dL_works_156 : decode cL_works 156 = .ok (.goto 4, 3) := by decide +kernel
theorem dL_works_159 : decode cL_works 159 = .ok (.iconst 0, 1) := by decide +kernel
theorem dL_works_160 : decode cL_works 160 = .ok (.istore 12, 2) := by decide +kernel
theorem dL_works_162 : decode cL_works 162 = .ok (.iload 12, 2) := by decide +kernel
theorem dL_works_164 : decode cL_works 164 = .ok (.ifCond .eq 18, 3) := by decide +kernel
theorem dL_works_167 : decode cL_works 167 = .ok (.aload_n 0, 1) := by decide +kernel
theorem dL_works_168 : decode cL_works 168 = .ok (.iload_n 2, 1) := by decide +kernel
theorem dL_works_169 : decode cL_works 169 = .ok (.iconst 2, 1) := by decide +kernel
theorem dL_works_170 : decode cL_works 170 = .ok (.invokestatic 100, 3) := by decide +kernel
theorem dL_works_173 : decode cL_works 173 = .ok (.iload 7, 2) := by decide +kernel
theorem dL_works_175 : decode cL_works 175 = .ok (.if_icmp .ne 7, 3) := by decide +kernel
theorem dL_works_178 : decode cL_works 178 = .ok (.iconst 1, 1) := by decide +kernel
theorem dL_works_179 : decode cL_works 179 = .ok (.goto 4, 3) := by decide +kernel
theorem dL_works_182 : decode cL_works 182 = .ok (.iconst 0, 1) := by decide +kernel
theorem dL_works_183 : decode cL_works 183 = .ok (.ireturn, 1) := by decide +kernel
theorem dL_works_184 : decode cL_works 184 = .ok (.iload 5, 2) := by decide +kernel
theorem dL_works_186 : decode cL_works 186 = .ok (.iconst 1, 1) := by decide +kernel
theorem dL_works_187 : decode cL_works 187 = .ok (.if_icmp .ne 70, 3) := by decide +kernel
theorem dL_works_190 : decode cL_works 190 = .ok (.iconst 1, 1) := by decide +kernel
theorem dL_works_191 : decode cL_works 191 = .ok (.iload 4, 2) := by decide +kernel
theorem dL_works_193 : decode cL_works 193 = .ok (.iconst 3, 1) := by decide +kernel
theorem dL_works_194 : decode cL_works 194 = .ok (.ishr, 1) := by decide +kernel
theorem dL_works_195 : decode cL_works 195 = .ok (.bipush 30, 2) := by decide +kernel
theorem dL_works_197 : decode cL_works 197 = .ok (.invokestatic 123, 3) := by decide +kernel
theorem dL_works_200 : decode cL_works 200 = .ok (.iadd, 1) := by decide +kernel
theorem dL_works_201 : decode cL_works 201 = .ok (.istore 10, 2) := by decide +kernel
theorem dL_works_203 : decode cL_works 203 = .ok (.aload_n 0, 1) := by decide +kernel
theorem dL_works_204 : decode cL_works 204 = .ok (.iload_n 2, 1) := by decide +kernel
theorem dL_works_205 : decode cL_works 205 = .ok (.iload 6, 2) := by decide +kernel
theorem dL_works_207 : decode cL_works 207 = .ok (.iload 10, 2) := by decide +kernel
theorem dL_works_209 : decode cL_works 209 = .ok (.invokestatic 143, 3) := by decide +kernel
theorem dL_works_212 : decode cL_works 212 = .ok (.istore 11, 2) := by decide +kernel
theorem dL_works_214 : decode cL_works 214 = .ok (.iload 11, 2) := by decide +kernel
theorem dL_works_216 : decode cL_works 216 = .ok (.ifCond .lt 39, 3) := by decide +kernel
theorem dL_works_219 : decode cL_works 219 = .ok (.iload 11, 2) := by decide +kernel
theorem dL_works_221 : decode cL_works 221 = .ok (.iload 10, 2) := by decide +kernel
theorem dL_works_223 : decode cL_works 223 = .ok (.if_icmp .gt 32, 3) := by decide +kernel
theorem dL_works_226 : decode cL_works 226 = .ok (.aload_n 0, 1) := by decide +kernel
theorem dL_works_227 : decode cL_works 227 = .ok (.iload_n 2, 1) := by decide +kernel
theorem dL_works_228 : decode cL_works 228 = .ok (.iconst 2, 1) := by decide +kernel
theorem dL_works_229 : decode cL_works 229 = .ok (.invokestatic 100, 3) := by decide +kernel
theorem dL_works_232 : decode cL_works 232 = .ok (.iload 7, 2) := by decide +kernel
theorem dL_works_234 : decode cL_works 234 = .ok (.iload 11, 2) := by decide +kernel
theorem dL_works_236 : decode cL_works 236 = .ok (.isub, 1) := by decide +kernel
theorem dL_works_237 : decode cL_works 237 = .ok (.if_icmp .ne 18, 3) := by decide +kernel
theorem dL_works_240 : decode cL_works 240 = .ok (.aload_n 0, 1) := by decide +kernel
theorem dL_works_241 : decode cL_works 241 = .ok (.iload_n 2, 1) := by decide +kernel
theorem dL_works_242 : decode cL_works 242 = .ok (.iconst 1, 1) := by decide +kernel
theorem dL_works_243 : decode cL_works 243 = .ok (.invokestatic 100, 3) := by decide +kernel
theorem dL_works_246 : decode cL_works 246 = .ok (.iload 9, 2) := by decide +kernel
theorem dL_works_248 : decode cL_works 248 = .ok (.if_icmp .ne 7, 3) := by decide +kernel
theorem dL_works_251 : decode cL_works 251 = .ok (.iconst 1, 1) := by decide +kernel
theorem dL_works_252 : decode cL_works 252 = .ok (.goto 4, 3) := by decide +kernel
theorem dL_works_255 : decode cL_works 255 = .ok (.iconst 0, 1) := by decide +kernel
theorem dL_works_256 : decode cL_works 256 = .ok (.ireturn, 1) := by decide +kernel
theorem dL_works_257 : decode cL_works 257 = .ok (.iload 5, 2) := by decide +kernel
theorem dL_works_259 : decode cL_works 259 = .ok (.iconst 2, 1) := by decide +kernel
theorem dL_works_260 : decode cL_works 260 = .ok (.if_icmp .ne 86, 3) := by decide +kernel
theorem dL_works_263 : decode cL_works 263 = .ok (.aload_n 1, 1) := by decide +kernel
theorem dL_works_264 : decode cL_works 264 = .ok (.iconst 2, 1) := by decide +kernel
theorem dL_works_265 : decode cL_works 265 = .ok (.iaload, 1) := by decide +kernel
theorem dL_works_266 : decode cL_works 266 = .ok (.ifCond .le 80, 3) := by decide +kernel
