set_option maxRecDepth 100000 in
theorem ggL_law_X9_planned : GoodIn lwS wsX9_planned := goodIn_r _ [771, 36, 772, 677, 678, 35, 679, 92, 773, 774, 775, 776, 87, 987, 988, 989, 990, 991, 992, 993, 994, 995, 996, 997, 1075, 1076, 1077, 1078, 1079, 1080, 1081, 1082, 1083, 1084, 1085, 1086, 1044, 1045, 1046, 1058, 1059, 1060, 1061, 1062, 1063, 1064, 1065, 1066] (by decide +kernel) (by decide +kernel)
set_option maxRecDepth 100000 in
theorem gL_law_X9_planned : GoodIn lwS (wsV RL 69 RX9 yX9_planned wsX9_planned) := goodIn_app (goodIn_of _ (by decide +kernel)) ggL_law_X9_planned
set_option maxRecDepth 100000 in
theorem ggL_law_X10_planned : GoodIn lwS wsX10_planned := goodIn_r _ [780, 174, 696, 697, 144, 147, 148, 132, 146, 149, 145, 998, 999, 1000, 1001, 1002, 1003, 1004, 1005, 1006, 1007, 1008, 1009, 1010, 1011, 1012, 1013, 1014, 1015, 1016, 1017, 1018, 1019, 1020, 1021, 1022, 1023, 1024, 1025, 1026, 1027, 1028, 1029, 1030, 1031, 1032, 1033, 1034, 1035, 1036, 1037, 1038, 1039, 1040, 1041] (by decide +kernel) (by decide +kernel)
set_option maxRecDepth 100000 in
theorem gL_law_X10_planned : GoodIn lwS (wsV RL 72 RX10 yX10_planned wsX10_planned) := goodIn_app (goodIn_of _ (by decide +kernel)) ggL_law_X10_planned
set_option maxRecDepth 100000 in
theorem ggL_law_X9_newName : GoodIn lwS wsX9_newName := goodIn_r _ [784, 36, 772, 677, 678, 35, 679, 92, 773, 774, 775, 776, 87, 785, 272, 273, 19, 274, 56, 54, 987, 988, 989, 990, 991, 992, 993, 994, 995, 996, 997, 1075, 1076, 1077, 1078, 1079, 1080, 1081, 1082, 1083, 1084, 1085, 1086, 1058, 1059, 1060, 1061, 1062, 1063, 1064, 1065, 1066, 1044, 1045, 1046] (by decide +kernel) (by decide +kernel)
set_option maxRecDepth 100000 in
theorem gL_law_X9_newName : GoodIn lwS (wsV RL 73 RX9 yX9_newName wsX9_newName) := goodIn_app (goodIn_of _ (by decide +kernel)) ggL_law_X9_newName
set_option maxRecDepth 100000 in
theorem ggL_law_X10_newName : GoodIn lwS wsX10_newName := goodIn_r _ [789, 174, 696, 697, 131, 130, 998, 999, 1000, 1001, 1002, 1003, 1004, 1005, 1006, 1007, 1008, 1009, 1010, 1011, 1012, 1013, 1014, 1015, 1016, 1017, 1018, 1019, 1020, 1021, 1022, 1023, 1024, 1025, 1026, 1027, 1028, 1029, 1030, 1031, 1032, 1033, 1034, 1035, 1036, 1037, 1038, 1039, 1040, 1041] (by decide +kernel) (by decide +kernel)
set_option maxRecDepth 100000 in
theorem gL_law_X10_newName : GoodIn lwS (wsV RL 76 RX10 yX10_newName wsX10_newName) := goodIn_app (goodIn_of _ (by decide +kernel)) ggL_law_X10_newName
