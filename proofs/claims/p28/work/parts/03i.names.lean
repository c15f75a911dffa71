set_option maxRecDepth 20000 in
theorem gp_works_0 : GoodIn wsL_acts (.code yL_works cL_works 13 (some .boolean) :: wsL_works_r1) := goodIn_r _ [313, 1, 15, 2, 3, 4, 5, 6, 163, 164, 165, 13, 117, 118, 166, 167, 168, 19, 169, 123, 124, 170, 171, 172, 173] (by decide +kernel) (by decide +kernel)
set_option maxRecDepth 20000 in
theorem gp_works_1 : GoodIn wsL_acts wsL_works_r2 := goodIn_r _ [174, 175, 176, 177, 178, 179, 180, 181, 28, 29, 125, 182, 31, 32, 33, 34, 35, 36, 130, 131, 132, 133, 134, 135] (by decide +kernel) (by decide +kernel)
set_option maxRecDepth 20000 in
theorem gp_works_2 : GoodIn wsL_acts wsL_works_r3 := goodIn_r _ [136, 137, 138, 139, 140, 141, 142, 143, 144, 145, 43, 183, 184, 185, 128, 186, 150, 314, 315, 316, 14, 317, 318, 319] (by decide +kernel) (by decide +kernel)
set_option maxRecDepth 20000 in
theorem gp_works_3 : GoodIn wsL_acts wsL_works_r4 := goodIn_r _ [320, 21, 22, 275, 276, 277, 321, 322, 323, 324, 325, 326, 327, 152, 328, 258, 85, 59, 86, 329, 153, 282, 58, 60] (by decide +kernel) (by decide +kernel)
set_option maxRecDepth 20000 in
theorem gp_works_4 : GoodIn wsL_acts wsL_works_r5 := goodIn_r _ [330, 331, 332, 333, 334, 335, 151, 259, 260, 261, 262, 336, 337, 338, 339, 340, 341, 342, 343, 344, 345, 346, 347, 348] (by decide +kernel) (by decide +kernel)
set_option maxRecDepth 20000 in
theorem gp_works_5 : GoodIn wsL_acts wsL_works_r6 := goodIn_r _ [349, 350, 351, 352, 353, 354, 355, 356, 357, 98, 358, 359, 360, 361, 362, 363, 364, 365, 366, 367, 368, 369, 370, 371] (by decide +kernel) (by decide +kernel)
set_option maxRecDepth 20000 in
theorem gp_works_6 : GoodIn wsL_acts wsL_works_r7 := goodIn_r _ [372, 373, 374, 375, 376, 377, 378, 379, 380, 381, 382, 383, 384, 385, 386, 101, 387, 110, 388, 389, 390, 391, 392, 393] (by decide +kernel) (by decide +kernel)
set_option maxRecDepth 20000 in
theorem gp_works_7 : GoodIn wsL_acts wsL_works_r8 := goodIn_r _ [394, 395, 396, 397, 398, 399, 400, 401, 402, 403, 404] (by decide +kernel) (by decide +kernel)
set_option maxRecDepth 20000 in
theorem gp_works_w0 : GoodIn wsL_acts wsX00 := goodIn_r _ [539, 540, 541, 542, 543, 544, 545, 546, 547, 548, 549, 550, 551, 552, 553, 554, 555, 556] (by decide +kernel) (by decide +kernel)
set_option maxRecDepth 20000 in
theorem gp_works_w1 : GoodIn wsL_acts wsX50 := goodIn_r _ [526, 527, 528, 529, 530, 531, 532, 533] (by decide +kernel) (by decide +kernel)
set_option maxRecDepth 20000 in
theorem gp_works_w2 : GoodIn wsL_acts wsJx4a65c0 := goodIn_r _ [534, 535, 536] (by decide +kernel) (by decide +kernel)
set_option maxRecDepth 20000 in
theorem gp_works_w3 : GoodIn wsL_acts wsX10 := goodIn_r _ [537, 538] (by decide +kernel) (by decide +kernel)
set_option maxRecDepth 20000 in
theorem ggL_acts_L_works : GoodIn wsL_acts wsL_works := goodIn_ca (goodIn_ca (goodIn_ca (goodIn_ca (goodIn_ca (goodIn_ca (goodIn_ca (goodIn_ca gp_works_0 (goodIn_app gp_works_1 (goodIn_app gp_works_2 (goodIn_app gp_works_3 (goodIn_app gp_works_4 (goodIn_app gp_works_5 (goodIn_app gp_works_6 gp_works_7))))))) gp_works_w0) gp_works_w1) gp_works_w2) gp_works_w3) (goodIn_sub (fun _ h => List.mem_cons_of_mem _ (List.mem_append_right _ h)) (by decide +kernel))) (goodIn_sub (fun _ h => List.mem_cons_of_mem _ (List.mem_append_left _ (List.mem_append_right _ h))) (by decide +kernel))) (goodIn_sub (fun _ h => List.mem_cons_of_mem _ (List.mem_append_left _ (List.mem_append_left _ (List.mem_append_right _ h)))) (by decide +kernel))
set_option maxRecDepth 20000 in
theorem gL_acts_L_works : GoodIn wsL_acts (va_wsS RL 171 yL_works wsL_works) := goodIn_app (goodIn_of _ (by decide +kernel)) ggL_acts_L_works
