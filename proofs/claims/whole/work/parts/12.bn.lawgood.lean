set_option maxRecDepth 100000 in
theorem ggL_law_X10_thrown : GoodIn lwS wsX10_thrown := goodIn_r _ [960, 174, 998, 999, 1000, 1001, 1002, 1003, 1004, 1005, 1006, 1007, 1008, 1009, 1010, 1011, 1012, 1013, 1014, 1015, 1016, 1017, 1018, 1019, 1020, 1021, 1022, 1023, 1024, 1025, 1026, 1027, 1028, 1029, 1030, 1031, 1032, 1033, 1034, 1035, 1036, 1037, 1038, 1039, 1040, 1041] (by decide +kernel) (by decide +kernel)
set_option maxRecDepth 100000 in
theorem gL_law_X10_thrown : GoodIn lwS (wsV RL 111 RX10 yX10_thrown wsX10_thrown) := goodIn_app (goodIn_of _ (by decide +kernel)) ggL_law_X10_thrown
set_option maxRecDepth 100000 in
theorem ggL_law_X9_count : GoodIn lwS wsX9_count := goodIn_r _ [964, 24, 16, 36, 28, 965, 966, 967, 23, 968, 66, 162, 163, 164, 165, 67, 969, 647, 648, 649, 68, 193, 194, 195, 15, 196, 50, 570, 571, 572, 35, 573, 92, 798, 799, 800, 801, 93, 843, 844, 845, 846, 95, 970, 971, 972, 27, 973, 75, 542, 543, 544, 545, 94, 974, 975, 976, 977, 64, 62, 978, 950, 951, 19, 952, 271, 272, 273, 274, 56, 54, 987, 988, 989, 990, 991, 992, 993, 994, 995, 996, 997, 1047, 1048, 1049, 1050, 1051, 1052, 1042, 1043, 1058, 1059, 1060, 1061, 1062, 1063, 1064, 1065, 1066, 1053, 1054, 1044, 1045, 1046] (by decide +kernel) (by decide +kernel)
set_option maxRecDepth 100000 in
theorem gL_law_X9_count : GoodIn lwS (wsV RL 114 RX9 yX9_count wsX9_count) := goodIn_app (goodIn_of _ (by decide +kernel)) ggL_law_X9_count
set_option maxRecDepth 100000 in
theorem ggL_law_X10_count : GoodIn lwS wsX10_count := goodIn_r _ [982, 174, 180, 175, 201, 696, 697, 698, 375, 176, 177, 178, 5, 179, 133, 744, 745, 746, 747, 147, 699, 700, 701, 702, 703, 983, 984, 985, 986, 130, 998, 999, 1000, 1001, 1002, 1003, 1004, 1005, 1006, 1007, 1008, 1009, 1010, 1011, 1012, 1013, 1014, 1015, 1016, 1017, 1018, 1019, 1020, 1021, 1022, 1023, 1024, 1025, 1026, 1027, 1028, 1029, 1030, 1031, 1032, 1033, 1034, 1035, 1036, 1037, 1038, 1039, 1040, 1041] (by decide +kernel) (by decide +kernel)
set_option maxRecDepth 100000 in
theorem gL_law_X10_count : GoodIn lwS (wsV RL 117 RX10 yX10_count wsX10_count) := goodIn_app (goodIn_of _ (by decide +kernel)) ggL_law_X10_count
