/-! ===== the law's words among the tables' ===== -/
set_option maxRecDepth 20000 in
theorem gT_law_X5_init : GoodIn lw_tbl (wsX5_init) := goodIn_ca (goodIn_ca (goodIn_ca (goodIn_ca (goodIn_ca (goodIn_ca gt_x0 (goodIn_app gt_x1 gt_x2)) gt_w0) gt_w1) gt_w6) gt_w4) gt_w5
set_option maxRecDepth 20000 in
theorem gt_acts : GoodIn lw_tbl wsL_acts := goodIn_ca (goodIn_ca (goodIn_ca (goodIn_ca (goodIn_ca (goodIn_ca (goodIn_ca (goodIn_ca (goodIn_ca (goodIn_ca (goodIn_ca gt_a0 (goodIn_app gt_a1 (goodIn_app gt_a2 (goodIn_app gt_a3 (goodIn_app gt_a4 (goodIn_app gt_a5 (goodIn_app gt_a6 (goodIn_app gt_a7 (goodIn_app gt_a8 (goodIn_app gt_a9 (goodIn_app gt_a10 (goodIn_app gt_a11 (goodIn_app gt_a12 (goodIn_app gt_a13 (goodIn_app gt_a14 (goodIn_app gt_a15 (goodIn_app gt_a16 (goodIn_app gt_a17 (goodIn_app gt_a18 (goodIn_app gt_a19 (goodIn_app gt_a20 gt_a21))))))))))))))))))))) gt_w0) gt_w1) gt_w2) gt_w3) gt_w4) gt_w5) gt_w6) gt_w7) gt_w8) gt_w9
theorem gt_makes : GoodIn lw_tbl wsL_makes := fun w h => gt_acts w (ggL_acts_L_makes w h).1
theorem gt_isBillet : GoodIn lw_tbl wsL_isBillet := fun w h => gt_acts w (ggL_acts_L_isBillet w h).1
set_option maxRecDepth 20000 in
theorem gT_law_L_at : GoodIn lw_tbl (va_wsS RL 191 yL_at wsL_at) := goodIn_r _ [158, 159, 19, 160, 161, 162] (by decide +kernel) (by decide +kernel)
set_option maxRecDepth 20000 in
theorem gT_law_L_acts : GoodIn lw_tbl (va_wsS RL 195 yL_acts wsL_acts) := goodIn_app (goodIn_r _ [547, 548, 19] (by decide +kernel) (by decide +kernel)) gt_acts
set_option maxRecDepth 20000 in
theorem gT_law_L_makes : GoodIn lw_tbl (va_wsS RL 160 yL_makes wsL_makes) := goodIn_app (goodIn_r _ [343, 344, 19] (by decide +kernel) (by decide +kernel)) gt_makes
set_option maxRecDepth 20000 in
theorem gT_law_L_isBillet : GoodIn lw_tbl (va_wsS RL 186 yL_isBillet wsL_isBillet) := goodIn_app (goodIn_r _ [163, 164, 19] (by decide +kernel) (by decide +kernel)) gt_isBillet
