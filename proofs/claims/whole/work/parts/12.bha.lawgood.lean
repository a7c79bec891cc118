set_option maxRecDepth 100000 in
theorem gr_wsX10_plan_r4 : GoodIn lwS wsX10_plan_r4 := goodIn_r _ [725, 726, 727, 317, 318, 319, 728, 729, 730, 731, 313, 314, 315, 316, 732, 733, 734, 735, 147, 148, 309, 310, 311, 312] (by decide +kernel) (by decide +kernel)
set_option maxRecDepth 100000 in
theorem gr_wsX10_plan_r5 : GoodIn lwS wsX10_plan_r5 := goodIn_r _ [175, 305, 306, 307, 308, 736, 737, 738, 739, 740, 741, 742, 743, 156, 157, 744, 745, 746, 747, 320, 321, 322, 323, 748] (by decide +kernel) (by decide +kernel)
set_option maxRecDepth 100000 in
theorem gr_wsX10_plan_r6 : GoodIn lwS wsX10_plan_r6 := goodIn_r _ [749, 750, 751, 752, 753, 754, 755, 756, 757, 758, 759, 150, 151, 152, 760, 761, 762, 763, 155, 154, 153, 764, 765, 766] (by decide +kernel) (by decide +kernel)
set_option maxRecDepth 100000 in
theorem gr_wsX10_plan_r7 : GoodIn lwS wsX10_plan_r7 := goodIn_r _ [767] (by decide +kernel) (by decide +kernel)
