set_option maxRecDepth 100000 in
theorem gr_wsX10_plan_r1 : GoodIn lwS wsX10_plan_r1 := goodIn_r _ [174, 442, 696, 697, 698, 180, 133, 132, 144, 145, 149, 296, 297, 5, 298, 699, 700, 701, 702, 703, 522, 523, 524, 525] (by decide +kernel) (by decide +kernel)
set_option maxRecDepth 100000 in
theorem gr_wsX10_plan_r2 : GoodIn lwS wsX10_plan_r2 := goodIn_r _ [143, 526, 527, 528, 529, 131, 135, 130, 530, 531, 532, 302, 303, 304, 533, 142, 704, 705, 706, 707, 708, 709, 710, 711] (by decide +kernel) (by decide +kernel)
set_option maxRecDepth 100000 in
theorem gr_wsX10_plan_r3 : GoodIn lwS wsX10_plan_r3 := goodIn_r _ [146, 443, 136, 137, 712, 563, 564, 565, 713, 714, 715, 716, 717, 718, 719, 720, 721, 722, 723, 724, 534, 535, 536, 537] (by decide +kernel) (by decide +kernel)
