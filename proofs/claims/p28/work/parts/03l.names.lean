set_option maxRecDepth 20000 in
theorem gp_isNearer_0 : GoodIn wsL_acts (.code yL_isNearer cL_isNearer 8 (some .boolean) :: wsL_isNearer_r1) := goodIn_r _ [459, 460, 461, 4, 462, 13, 117, 15, 118, 463, 464, 465, 19, 466, 467, 176, 468, 178, 179, 180, 181, 28, 29, 125, 182] (by decide +kernel) (by decide +kernel)
set_option maxRecDepth 20000 in
theorem gp_isNearer_1 : GoodIn wsL_acts wsL_isNearer_r2 := goodIn_r _ [31, 32, 33, 34, 35, 36, 130, 131, 132, 133, 134, 135, 136, 137, 138, 139, 140, 141, 142, 143, 144, 145, 43, 469] (by decide +kernel) (by decide +kernel)
set_option maxRecDepth 20000 in
theorem gp_isNearer_2 : GoodIn wsL_acts wsL_isNearer_r3 := goodIn_r _ [470, 471, 123, 124, 472, 473, 474, 475, 476, 477, 478, 479, 480, 112, 73, 113, 481, 482, 483, 484, 485, 486, 487, 488] (by decide +kernel) (by decide +kernel)
set_option maxRecDepth 20000 in
theorem gp_isNearer_3 : GoodIn wsL_acts wsL_isNearer_r4 := goodIn_r _ [489, 490, 491, 492, 493, 494, 163, 164, 165, 166, 167, 168, 169, 170, 171, 172, 173, 174, 175, 177, 183, 184, 185, 128] (by decide +kernel) (by decide +kernel)
set_option maxRecDepth 20000 in
theorem gp_isNearer_4 : GoodIn wsL_acts wsL_isNearer_r5 := goodIn_r _ [186, 150, 495, 496, 497, 498, 499, 500, 14, 1, 501, 502, 503, 504, 21, 22, 505] (by decide +kernel) (by decide +kernel)
set_option maxRecDepth 20000 in
theorem gp_isNearer_w0 : GoodIn wsL_acts wsX50 := goodIn_r _ [526, 527, 528, 529, 530, 531, 532, 533] (by decide +kernel) (by decide +kernel)
set_option maxRecDepth 20000 in
theorem gp_isNearer_w1 : GoodIn wsL_acts wsX00 := goodIn_r _ [539, 540, 541, 542, 543, 544, 545, 546, 547, 548, 549, 550, 551, 552, 553, 554, 555, 556] (by decide +kernel) (by decide +kernel)
set_option maxRecDepth 20000 in
theorem gp_isNearer_w2 : GoodIn wsL_acts wsX20 := goodIn_r _ [563, 564, 565] (by decide +kernel) (by decide +kernel)
set_option maxRecDepth 20000 in
theorem gp_isNearer_w3 : GoodIn wsL_acts wsJx4a65c0 := goodIn_r _ [534, 535, 536] (by decide +kernel) (by decide +kernel)
set_option maxRecDepth 20000 in
theorem ggL_acts_L_isNearer : GoodIn wsL_acts wsL_isNearer := goodIn_ca (goodIn_ca (goodIn_ca (goodIn_ca (goodIn_ca (goodIn_ca (goodIn_ca (goodIn_ca gp_isNearer_0 (goodIn_app gp_isNearer_1 (goodIn_app gp_isNearer_2 (goodIn_app gp_isNearer_3 gp_isNearer_4)))) gp_isNearer_w0) gp_isNearer_w1) gp_isNearer_w2) gp_isNearer_w3) (goodIn_sub (fun _ h => List.mem_cons_of_mem _ (List.mem_append_left _ (List.mem_append_right _ h))) (by decide +kernel))) (goodIn_sub (fun _ h => List.mem_cons_of_mem _ (List.mem_append_right _ h)) (by decide +kernel))) (goodIn_sub (fun _ h => List.mem_cons_of_mem _ (List.mem_append_left _ (List.mem_append_left _ (List.mem_append_right _ h)))) (by decide +kernel))
set_option maxRecDepth 20000 in
theorem gL_acts_L_isNearer : GoodIn wsL_acts (va_wsS RL 183 yL_isNearer wsL_isNearer) := goodIn_app (goodIn_of _ (by decide +kernel)) ggL_acts_L_isNearer
set_option maxRecDepth 20000 in
theorem ggL_acts_L_layer : GoodIn wsL_acts wsL_layer := goodIn_ca (goodIn_ca (goodIn_ca (goodIn_r _ [500, 13, 117, 14, 15, 118, 1, 501, 502, 503, 19, 504, 123, 124, 21, 22, 171, 176, 178, 179, 180, 181, 28, 29, 125, 182, 31, 32, 33, 34, 35, 36, 130, 131, 132, 133, 134, 135, 136, 137, 138, 139, 140, 141, 142, 143, 144, 145, 43, 505, 482, 475, 483, 484, 485, 486, 539, 540, 541, 542, 543, 544, 545, 546, 547, 548, 549, 550, 551, 552, 553, 554, 555, 556, 526, 527, 528, 529, 530, 531, 532, 533, 534, 535, 536] (by decide +kernel) (by decide +kernel)) (goodIn_sub (fun _ h => List.mem_cons_of_mem _ (List.mem_append_right _ h)) (by decide +kernel))) (goodIn_sub (fun _ h => List.mem_cons_of_mem _ (List.mem_append_left _ (List.mem_append_left _ (List.mem_append_right _ h)))) (by decide +kernel))) (goodIn_sub (fun _ h => List.mem_cons_of_mem _ (List.mem_append_left _ (List.mem_append_right _ h))) (by decide +kernel))
set_option maxRecDepth 20000 in
theorem gL_acts_L_layer : GoodIn wsL_acts (va_wsS RL 121 yL_layer wsL_layer) := goodIn_app (goodIn_of _ (by decide +kernel)) ggL_acts_L_layer
