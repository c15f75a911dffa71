/-! ===== the law's words among the tables' ===== -/
set_option maxRecDepth 20000 in
theorem gt_w0 : GoodIn lw_tbl wsX50 := goodIn_sub (by decide +kernel) (by decide +kernel)
set_option maxRecDepth 20000 in
theorem gt_w1 : GoodIn lw_tbl wsJx4a65c0 := goodIn_sub (by decide +kernel) (by decide +kernel)
set_option maxRecDepth 20000 in
theorem gt_w2 : GoodIn lw_tbl wsX10 := goodIn_sub (by decide +kernel) (by decide +kernel)
set_option maxRecDepth 20000 in
theorem gt_w3 : GoodIn lw_tbl wsX00 := goodIn_sub (by decide +kernel) (by decide +kernel)
set_option maxRecDepth 20000 in
theorem gt_w4 : GoodIn lw_tbl wsX30 := goodIn_sub (by decide +kernel) (by decide +kernel)
set_option maxRecDepth 20000 in
theorem gt_w5 : GoodIn lw_tbl wsX40 := goodIn_sub (by decide +kernel) (by decide +kernel)
set_option maxRecDepth 20000 in
theorem gt_w6 : GoodIn lw_tbl wsX20 := goodIn_sub (by decide +kernel) (by decide +kernel)
set_option maxRecDepth 20000 in
theorem gt_w7 : GoodIn lw_tbl ((vx_atS RX5 80 "java/lang/IllegalStateException" ["java/lang/RuntimeException", "java/lang/Exception"]).filter goodWord) := goodIn_sub (by decide +kernel) (by decide +kernel)
set_option maxRecDepth 20000 in
theorem gt_w8 : GoodIn lw_tbl ((vx_atS RX5 89 "java/lang/IndexOutOfBoundsException" ["java/lang/RuntimeException", "java/lang/Exception"]).filter goodWord) := goodIn_sub (by decide +kernel) (by decide +kernel)
set_option maxRecDepth 20000 in
theorem gt_w9 : GoodIn lw_tbl ((vx_atS RX5 55 "java/lang/IllegalArgumentException" ["java/lang/RuntimeException", "java/lang/Exception"]).filter goodWord) := goodIn_sub (by decide +kernel) (by decide +kernel)
set_option maxRecDepth 20000 in
theorem gt_x0 : GoodIn lw_tbl (.code yX5_init cX5_init 2 none :: wsX5_init_r1) := goodIn_r _ [45, 46, 47, 48, 49, 133, 51, 52, 23, 134, 135, 136, 95, 137, 77, 78, 24, 139, 96, 97, 25, 140, 113, 26, 53] (by decide +kernel) (by decide +kernel)
set_option maxRecDepth 20000 in
theorem gt_x1 : GoodIn lw_tbl wsX5_init_r2 := goodIn_r _ [54, 55, 63, 65, 56, 57, 22, 58, 67, 59, 60, 21, 61, 62, 80, 81, 82, 83, 85, 87, 99, 100, 101, 102] (by decide +kernel) (by decide +kernel)
set_option maxRecDepth 20000 in
theorem gt_x2 : GoodIn lw_tbl wsX5_init_r3 := goodIn_r _ [105, 115, 116, 117, 118, 120, 123] (by decide +kernel) (by decide +kernel)
