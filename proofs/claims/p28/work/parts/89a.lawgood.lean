/-! ===== the law's words among the tables' ===== -/
set_option maxRecDepth 20000 in
theorem gt_a0 : GoodIn lw_tbl (.code yL_acts cL_acts 11 (some .boolean) :: wsL_acts_r1) := goodIn_r _ [549, 432, 346, 347, 19, 348, 349, 343, 344, 345, 350, 351, 352, 169, 353, 286, 354, 355, 356, 20, 357, 363, 31, 134, 358] (by decide +kernel) (by decide +kernel)
set_option maxRecDepth 20000 in
theorem gt_a1 : GoodIn lw_tbl wsL_acts_r2 := goodIn_r _ [360, 3, 361, 183, 30, 133, 179, 180, 181, 23, 182, 66, 379, 380, 381, 382, 68, 69, 65, 383, 385, 4, 386, 387] (by decide +kernel) (by decide +kernel)
set_option maxRecDepth 20000 in
theorem gt_a2 : GoodIn lw_tbl wsL_acts_r3 := goodIn_r _ [389, 5, 390, 391, 393, 6, 394, 63, 430, 318, 33, 319, 431, 395, 396, 32, 397, 398, 399, 400, 401, 402, 403, 404] (by decide +kernel) (by decide +kernel)
set_option maxRecDepth 20000 in
theorem gt_a3 : GoodIn lw_tbl wsL_acts_r4 := goodIn_r _ [34, 405, 406, 842, 407, 419, 420, 421, 422, 423, 425, 426, 338, 339, 427, 429, 428, 35, 433, 434, 435, 436, 437, 438] (by decide +kernel) (by decide +kernel)
set_option maxRecDepth 20000 in
theorem gt_a4 : GoodIn lw_tbl wsL_acts_r5 := goodIn_r _ [439, 136, 441, 442, 36, 443, 444, 445, 446, 47, 48, 95, 450, 453, 447, 448, 449, 460, 461, 462, 170, 287, 463, 464] (by decide +kernel) (by decide +kernel)
set_option maxRecDepth 20000 in
theorem gt_a5 : GoodIn lw_tbl wsL_acts_r6 := goodIn_r _ [465, 466, 270, 37, 135, 265, 470, 38, 49, 251, 252, 253, 254, 255, 256, 39, 257, 258, 259, 40, 260, 261, 262, 263] (by decide +kernel) (by decide +kernel)
set_option maxRecDepth 20000 in
theorem gt_a6 : GoodIn lw_tbl wsL_acts_r7 := goodIn_r _ [264, 471, 472, 473, 474, 480, 489, 491, 495, 501, 503, 505, 506, 508, 476, 478, 482, 475, 166, 167, 168, 171, 172, 173] (by decide +kernel) (by decide +kernel)
set_option maxRecDepth 20000 in
theorem gt_a7 : GoodIn lw_tbl wsL_acts_r8 := goodIn_r _ [174, 490, 492, 494, 496, 497, 499, 502, 504, 175, 177, 0, 178, 265, 266, 267, 268, 269, 550, 551, 552, 553, 554, 555] (by decide +kernel) (by decide +kernel)
set_option maxRecDepth 20000 in
theorem gt_a8 : GoodIn lw_tbl wsL_acts_r9 := goodIn_r _ [556, 557, 558, 559, 140, 104, 562, 563, 564, 25, 565, 103, 102, 566, 567, 568, 569, 570, 571, 572, 574, 575, 576, 577] (by decide +kernel) (by decide +kernel)
set_option maxRecDepth 20000 in
theorem gt_a9 : GoodIn lw_tbl wsL_acts_r10 := goodIn_r _ [578, 580, 7, 581, 582, 584, 8, 585, 105, 586, 587, 588, 589, 590, 591, 592, 593, 594, 595, 596, 597, 598, 599, 600] (by decide +kernel) (by decide +kernel)
set_option maxRecDepth 20000 in
theorem gt_a10 : GoodIn lw_tbl wsL_acts_r11 := goodIn_r _ [601, 602, 603, 604, 605, 606, 607, 479, 119, 609, 610, 611, 614, 615, 616, 617, 493, 337, 618, 620, 9, 621, 622, 624] (by decide +kernel) (by decide +kernel)
