/-! ===== the law's words among the tables' ===== -/
set_option maxRecDepth 20000 in
theorem gt_a11 : GoodIn lw_tbl wsL_acts_r12 := goodIn_r _ [10, 625, 484, 306, 307, 308, 309, 310, 311, 312, 302, 303, 304, 313, 314, 315, 316, 317, 626, 627, 628, 629, 630, 631] (by decide +kernel) (by decide +kernel)
set_option maxRecDepth 20000 in
theorem gt_a12 : GoodIn lw_tbl wsL_acts_r13 := goodIn_r _ [632, 507, 635, 328, 330, 2, 331, 137, 332, 333, 334, 335, 336, 636, 637, 638, 639, 640, 641, 642, 477, 509, 643, 644] (by decide +kernel) (by decide +kernel)
set_option maxRecDepth 20000 in
theorem gt_a13 : GoodIn lw_tbl wsL_acts_r14 := goodIn_r _ [645, 646, 647, 648, 649, 650, 651, 652, 656, 657, 658, 659, 660, 661, 662, 500, 498, 664, 665, 666, 667, 668, 669, 670] (by decide +kernel) (by decide +kernel)
set_option maxRecDepth 20000 in
theorem gt_a14 : GoodIn lw_tbl wsL_acts_r15 := goodIn_r _ [671, 672, 673, 674, 675, 676, 481, 678, 488, 679, 680, 681, 682, 683, 684, 685, 452, 686, 688, 11, 689, 441, 692, 693] (by decide +kernel) (by decide +kernel)
set_option maxRecDepth 20000 in
theorem gt_a15 : GoodIn lw_tbl wsL_acts_r16 := goodIn_r _ [694, 695, 696, 697, 698, 454, 701, 702, 703, 704, 705, 707, 12, 708, 451, 709, 711, 13, 712, 713, 715, 14, 716, 717] (by decide +kernel) (by decide +kernel)
set_option maxRecDepth 20000 in
theorem gt_a16 : GoodIn lw_tbl wsL_acts_r17 := goodIn_r _ [718, 719, 720, 721, 722, 724, 15, 725, 726, 728, 16, 729, 487, 730, 731, 732, 733, 734, 735, 736, 737, 738, 739, 740] (by decide +kernel) (by decide +kernel)
set_option maxRecDepth 20000 in
theorem gt_a17 : GoodIn lw_tbl wsL_acts_r18 := goodIn_r _ [741, 742, 743, 744, 745, 746, 747, 748, 749, 750, 751, 121, 124, 755, 756, 757, 758, 759, 760, 761, 762, 763, 764, 138] (by decide +kernel) (by decide +kernel)
set_option maxRecDepth 20000 in
theorem gt_a18 : GoodIn lw_tbl wsL_acts_r19 := goodIn_r _ [768, 770, 17, 771, 772, 773, 774, 777, 778, 779, 780, 122, 125, 781, 783, 18, 784, 320, 321, 322, 323, 324, 325, 326] (by decide +kernel) (by decide +kernel)
set_option maxRecDepth 20000 in
theorem gt_a19 : GoodIn lw_tbl wsL_acts_r20 := goodIn_r _ [786, 787, 788, 789, 790, 791, 792, 793, 794, 795, 139, 84, 796, 797, 798, 800, 801, 802, 24, 803, 83, 85, 87, 804] (by decide +kernel) (by decide +kernel)
set_option maxRecDepth 20000 in
theorem gt_a20 : GoodIn lw_tbl wsL_acts_r21 := goodIn_r _ [805, 806, 807, 808, 809, 810, 811, 812, 813, 814, 815, 816, 817, 86, 340, 341, 342, 818, 819, 820, 821, 822, 823, 824] (by decide +kernel) (by decide +kernel)
set_option maxRecDepth 20000 in
theorem gt_a21 : GoodIn lw_tbl wsL_acts_r22 := goodIn_r _ [827, 163, 164, 165, 288, 289, 290, 291, 292, 293, 294, 483, 485, 486, 295, 296, 297, 298, 299, 300, 301] (by decide +kernel) (by decide +kernel)
