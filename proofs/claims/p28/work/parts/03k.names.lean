set_option maxRecDepth 20000 in
theorem gp_quenches_0 : GoodIn wsL_acts (.code yL_quenches cL_quenches 10 (some .boolean) :: wsL_quenches_r1) := goodIn_r _ [424, 1, 2, 3, 4, 5, 6, 163, 164, 165, 13, 117, 15, 118, 166, 167, 168, 19, 169, 123, 124, 170, 171, 172, 173] (by decide +kernel) (by decide +kernel)
set_option maxRecDepth 20000 in
theorem gp_quenches_1 : GoodIn wsL_acts wsL_quenches_r2 := goodIn_r _ [174, 175, 176, 177, 178, 179, 180, 181, 28, 29, 125, 182, 31, 32, 33, 34, 35, 36, 130, 131, 132, 133, 134, 135] (by decide +kernel) (by decide +kernel)
set_option maxRecDepth 20000 in
theorem gp_quenches_2 : GoodIn wsL_acts wsL_quenches_r3 := goodIn_r _ [136, 137, 138, 139, 140, 141, 142, 143, 144, 145, 43, 183, 184, 185, 128, 186, 150, 425, 426, 427, 14, 428, 429, 430] (by decide +kernel) (by decide +kernel)
set_option maxRecDepth 20000 in
theorem gp_quenches_3 : GoodIn wsL_acts wsL_quenches_r4 := goodIn_r _ [431, 21, 22, 432, 433, 434, 435, 436, 437, 438, 439, 440, 441, 442, 443, 258, 85, 59, 86, 156, 160, 444, 445, 282] (by decide +kernel) (by decide +kernel)
set_option maxRecDepth 20000 in
theorem gp_quenches_4 : GoodIn wsL_acts wsL_quenches_r5 := goodIn_r _ [58, 60, 328, 151, 152, 157, 155, 446, 447, 448, 449, 322, 323, 330, 331, 268, 269, 270, 271, 272, 273, 274, 275, 276] (by decide +kernel) (by decide +kernel)
set_option maxRecDepth 20000 in
theorem gp_quenches_5 : GoodIn wsL_acts wsL_quenches_r6 := goodIn_r _ [277, 278, 279, 280, 281, 283, 284, 285, 286, 287, 288, 289, 290, 291, 292, 293, 294, 295, 296, 297, 298, 299, 300, 301] (by decide +kernel) (by decide +kernel)
set_option maxRecDepth 20000 in
theorem gp_quenches_6 : GoodIn wsL_acts wsL_quenches_r7 := goodIn_r _ [302, 303, 304, 305, 306, 307, 308, 309, 310, 450, 451, 452, 453, 454, 455, 456] (by decide +kernel) (by decide +kernel)
set_option maxRecDepth 20000 in
theorem gp_quenches_w0 : GoodIn wsL_acts wsX00 := goodIn_r _ [539, 540, 541, 542, 543, 544, 545, 546, 547, 548, 549, 550, 551, 552, 553, 554, 555, 556] (by decide +kernel) (by decide +kernel)
set_option maxRecDepth 20000 in
theorem gp_quenches_w1 : GoodIn wsL_acts wsX50 := goodIn_r _ [526, 527, 528, 529, 530, 531, 532, 533] (by decide +kernel) (by decide +kernel)
set_option maxRecDepth 20000 in
theorem gp_quenches_w2 : GoodIn wsL_acts wsJx4a65c0 := goodIn_r _ [534, 535, 536] (by decide +kernel) (by decide +kernel)
set_option maxRecDepth 20000 in
theorem gp_quenches_w3 : GoodIn wsL_acts wsX40 := goodIn_r _ [560, 561, 562] (by decide +kernel) (by decide +kernel)
set_option maxRecDepth 20000 in
theorem ggL_acts_L_quenches : GoodIn wsL_acts wsL_quenches := goodIn_ca (goodIn_ca (goodIn_ca (goodIn_ca (goodIn_ca (goodIn_ca (goodIn_ca (goodIn_ca gp_quenches_0 (goodIn_app gp_quenches_1 (goodIn_app gp_quenches_2 (goodIn_app gp_quenches_3 (goodIn_app gp_quenches_4 (goodIn_app gp_quenches_5 gp_quenches_6)))))) gp_quenches_w0) gp_quenches_w1) gp_quenches_w2) gp_quenches_w3) (goodIn_sub (fun _ h => List.mem_cons_of_mem _ (List.mem_append_right _ h)) (by decide +kernel))) (goodIn_sub (fun _ h => List.mem_cons_of_mem _ (List.mem_append_left _ (List.mem_append_right _ h))) (by decide +kernel))) (goodIn_sub (fun _ h => List.mem_cons_of_mem _ (List.mem_append_left _ (List.mem_append_left _ (List.mem_append_right _ h)))) (by decide +kernel))
set_option maxRecDepth 20000 in
theorem gL_acts_L_quenches : GoodIn wsL_acts (va_wsS RL 179 yL_quenches wsL_quenches) := goodIn_app (goodIn_of _ (by decide +kernel)) ggL_acts_L_quenches
