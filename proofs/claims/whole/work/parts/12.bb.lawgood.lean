set_option maxRecDepth 100000 in
theorem ggL_law_X9_feed : GoodIn lwS wsX9_feed := goodIn_r _ [184, 16, 185, 186, 187, 15, 188, 50, 49, 189, 190, 191, 192, 193, 194, 195, 196, 987, 988, 989, 990, 991, 992, 993, 994, 995, 996, 997, 1042, 1043] (by decide +kernel) (by decide +kernel)
set_option maxRecDepth 100000 in
theorem gL_law_X9_feed : GoodIn lwS (wsV RL 24 RX9 yX9_feed wsX9_feed) := goodIn_app (goodIn_of _ (by decide +kernel)) ggL_law_X9_feed
set_option maxRecDepth 100000 in
theorem ggL_law_X10_feed : GoodIn lwS wsX10_feed := goodIn_r _ [200, 174, 201, 134, 998, 999, 1000, 1001, 1002, 1003, 1004, 1005, 1006, 1007, 1008, 1009, 1010, 1011, 1012, 1013, 1014, 1015, 1016, 1017, 1018, 1019, 1020, 1021, 1022, 1023, 1024, 1025, 1026, 1027, 1028, 1029, 1030, 1031, 1032, 1033, 1034, 1035, 1036, 1037, 1038, 1039, 1040, 1041] (by decide +kernel) (by decide +kernel)
set_option maxRecDepth 100000 in
theorem gL_law_X10_feed : GoodIn lwS (wsV RL 28 RX10 yX10_feed wsX10_feed) := goodIn_app (goodIn_of _ (by decide +kernel)) ggL_law_X10_feed
set_option maxRecDepth 100000 in
theorem ggL_law_X9_end : GoodIn lwS wsX9_end := goodIn_r _ [205, 16, 206, 207, 208, 15, 209, 50, 987, 988, 989, 990, 991, 992, 993, 994, 995, 996, 997, 1042, 1043] (by decide +kernel) (by decide +kernel)
set_option maxRecDepth 100000 in
theorem gL_law_X9_end : GoodIn lwS (wsV RL 29 RX9 yX9_end wsX9_end) := goodIn_app (goodIn_of _ (by decide +kernel)) ggL_law_X9_end
set_option maxRecDepth 100000 in
theorem ggL_law_X10_end : GoodIn lwS wsX10_end := goodIn_r _ [213, 174, 201, 998, 999, 1000, 1001, 1002, 1003, 1004, 1005, 1006, 1007, 1008, 1009, 1010, 1011, 1012, 1013, 1014, 1015, 1016, 1017, 1018, 1019, 1020, 1021, 1022, 1023, 1024, 1025, 1026, 1027, 1028, 1029, 1030, 1031, 1032, 1033, 1034, 1035, 1036, 1037, 1038, 1039, 1040, 1041] (by decide +kernel) (by decide +kernel)
set_option maxRecDepth 100000 in
theorem gL_law_X10_end : GoodIn lwS (wsV RL 33 RX10 yX10_end wsX10_end) := goodIn_app (goodIn_of _ (by decide +kernel)) ggL_law_X10_end
