/-! ===== the law's words among the tables' ===== -/
set_option maxRecDepth 20000 in
theorem gt_w0 : GoodIn lw_tbl wsX50 := goodIn_r _ [141, 143, 145, 147, 149, 151, 153, 155] (by decide +kernel) (by decide +kernel)
set_option maxRecDepth 20000 in
theorem gt_w1 : GoodIn lw_tbl wsJx4a65c0 := goodIn_r _ [74, 70, 72] (by decide +kernel) (by decide +kernel)
set_option maxRecDepth 20000 in
theorem gt_w2 : GoodIn lw_tbl wsX10 := goodIn_r _ [455, 457] (by decide +kernel) (by decide +kernel)
set_option maxRecDepth 20000 in
theorem gt_w3 : GoodIn lw_tbl wsX00 := goodIn_r _ [510, 512, 514, 516, 518, 520, 522, 524, 526, 528, 530, 532, 534, 536, 538, 540, 542, 544] (by decide +kernel) (by decide +kernel)
set_option maxRecDepth 20000 in
theorem gt_w4 : GoodIn lw_tbl wsX30 := goodIn_r _ [106, 108, 110] (by decide +kernel) (by decide +kernel)
set_option maxRecDepth 20000 in
theorem gt_w5 : GoodIn lw_tbl wsX40 := goodIn_r _ [126, 128, 130] (by decide +kernel) (by decide +kernel)
set_option maxRecDepth 20000 in
theorem gt_w6 : GoodIn lw_tbl wsX20 := goodIn_r _ [88, 90, 92] (by decide +kernel) (by decide +kernel)
set_option maxRecDepth 20000 in
theorem gt_w7 : GoodIn lw_tbl ((vx_atS RX5 80 "java/lang/IllegalStateException" ["java/lang/RuntimeException", "java/lang/Exception"]).filter goodWord) := goodIn_r _ [27, 205, 214, 218, 221, 223, 206, 207, 47, 48, 208, 213, 219, 239, 195, 240, 197, 241, 199, 209, 211, 201, 235, 236, 238, 201, 374, 375, 376, 229, 229, 230, 231, 232, 232, 233, 234, 235, 373, 364, 366, 217, 367, 368, 369, 370, 204, 203, 371] (by decide +kernel) (by decide +kernel)
set_option maxRecDepth 20000 in
theorem gt_w8 : GoodIn lw_tbl ((vx_atS RX5 89 "java/lang/IndexOutOfBoundsException" ["java/lang/RuntimeException", "java/lang/Exception"]).filter goodWord) := goodIn_r _ [27, 205, 214, 218, 221, 223, 206, 207, 47, 48, 208, 213, 219, 239, 195, 240, 197, 241, 199, 209, 211, 201, 235, 236, 238, 201, 226, 227, 228, 229, 229, 230, 231, 232, 232, 233, 234, 235, 225, 184, 192, 193, 194, 196, 198, 200, 204, 203, 202] (by decide +kernel) (by decide +kernel)
set_option maxRecDepth 20000 in
theorem gt_w9 : GoodIn lw_tbl ((vx_atS RX5 55 "java/lang/IllegalArgumentException" ["java/lang/RuntimeException", "java/lang/Exception"]).filter goodWord) := goodIn_r _ [27, 205, 214, 218, 221, 223, 206, 207, 47, 48, 208, 213, 219, 239, 195, 240, 197, 241, 199, 209, 211, 201, 235, 236, 238, 201, 281, 282, 283, 229, 229, 230, 231, 232, 232, 233, 234, 235, 280, 271, 273, 216, 274, 275, 276, 277, 204, 203, 278] (by decide +kernel) (by decide +kernel)
set_option maxRecDepth 20000 in
theorem gt_x0 : GoodIn lw_tbl (.code yX5_init cX5_init 2 none :: wsX5_init_r1) := goodIn_r _ [45, 46, 47, 48, 49, 133, 51, 52, 23, 134, 135, 136, 95, 137, 77, 78, 24, 139, 96, 97, 25, 140, 113, 26, 53] (by decide +kernel) (by decide +kernel)
set_option maxRecDepth 20000 in
theorem gt_x1 : GoodIn lw_tbl wsX5_init_r2 := goodIn_r _ [54, 55, 63, 65, 56, 57, 22, 58, 67, 59, 60, 21, 61, 62, 80, 81, 82, 83, 85, 87, 99, 100, 101, 102] (by decide +kernel) (by decide +kernel)
set_option maxRecDepth 20000 in
theorem gt_x2 : GoodIn lw_tbl wsX5_init_r3 := goodIn_r _ [105, 115, 116, 117, 118, 120, 123] (by decide +kernel) (by decide +kernel)
