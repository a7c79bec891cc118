set_option maxRecDepth 100000 in
theorem ggL_law_X9_steps : GoodIn lwS wsX9_steps := goodIn_r _ [793, 36, 794, 795, 796, 35, 797, 91, 798, 799, 800, 801, 93, 802, 803, 804, 805, 94, 987, 988, 989, 990, 991, 992, 993, 994, 995, 996, 997, 1058, 1059, 1060, 1061, 1062, 1063, 1064, 1065, 1066] (by decide +kernel) (by decide +kernel)
set_option maxRecDepth 100000 in
theorem gL_law_X9_steps : GoodIn lwS (wsV RL 77 RX9 yX9_steps wsX9_steps) := goodIn_app (goodIn_of _ (by decide +kernel)) ggL_law_X9_steps
set_option maxRecDepth 100000 in
theorem ggL_law_X10_steps : GoodIn lwS wsX10_steps := goodIn_r _ [809, 174, 696, 703, 744, 745, 746, 5, 747, 697, 147, 998, 999, 1000, 1001, 1002, 1003, 1004, 1005, 1006, 1007, 1008, 1009, 1010, 1011, 1012, 1013, 1014, 1015, 1016, 1017, 1018, 1019, 1020, 1021, 1022, 1023, 1024, 1025, 1026, 1027, 1028, 1029, 1030, 1031, 1032, 1033, 1034, 1035, 1036, 1037, 1038, 1039, 1040, 1041] (by decide +kernel) (by decide +kernel)
set_option maxRecDepth 100000 in
theorem gL_law_X10_steps : GoodIn lwS (wsV RL 80 RX10 yX10_steps wsX10_steps) := goodIn_app (goodIn_of _ (by decide +kernel)) ggL_law_X10_steps
set_option maxRecDepth 100000 in
theorem ggL_law_X9_step : GoodIn lwS wsX9_step := goodIn_r _ [813, 36, 814, 815, 816, 35, 817, 94, 818, 819, 820, 821, 87, 88, 822, 823, 824, 825, 89, 826, 827, 828, 829, 90, 987, 988, 989, 990, 991, 992, 993, 994, 995, 996, 997, 1058, 1059, 1060, 1061, 1062, 1063, 1064, 1065, 1066, 1075, 1076, 1077, 1078, 1079, 1080, 1081, 1082, 1083, 1084, 1085, 1086] (by decide +kernel) (by decide +kernel)
set_option maxRecDepth 100000 in
theorem gL_law_X9_step : GoodIn lwS (wsV RL 81 RX9 yX9_step wsX9_step) := goodIn_app (goodIn_of _ (by decide +kernel)) ggL_law_X9_step
set_option maxRecDepth 100000 in
theorem ggL_law_X10_step : GoodIn lwS wsX10_step := goodIn_r _ [833, 174, 696, 703, 150, 151, 152, 998, 999, 1000, 1001, 1002, 1003, 1004, 1005, 1006, 1007, 1008, 1009, 1010, 1011, 1012, 1013, 1014, 1015, 1016, 1017, 1018, 1019, 1020, 1021, 1022, 1023, 1024, 1025, 1026, 1027, 1028, 1029, 1030, 1031, 1032, 1033, 1034, 1035, 1036, 1037, 1038, 1039, 1040, 1041] (by decide +kernel) (by decide +kernel)
set_option maxRecDepth 100000 in
theorem gL_law_X10_step : GoodIn lwS (wsV RL 84 RX10 yX10_step wsX10_step) := goodIn_app (goodIn_of _ (by decide +kernel)) ggL_law_X10_step
