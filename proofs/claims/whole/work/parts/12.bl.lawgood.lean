set_option maxRecDepth 100000 in
theorem ggL_law_X9_stuck : GoodIn lwS wsX9_stuck := goodIn_r _ [892, 44, 987, 988, 989, 990, 991, 992, 993, 994, 995, 996, 997] (by decide +kernel) (by decide +kernel)
set_option maxRecDepth 100000 in
theorem gL_law_X9_stuck : GoodIn lwS (wsV RL 93 RX9 yX9_stuck wsX9_stuck) := goodIn_app (goodIn_of _ (by decide +kernel)) ggL_law_X9_stuck
set_option maxRecDepth 100000 in
theorem ggL_law_X10_stuck : GoodIn lwS wsX10_stuck := goodIn_r _ [896, 174, 868, 998, 999, 1000, 1001, 1002, 1003, 1004, 1005, 1006, 1007, 1008, 1009, 1010, 1011, 1012, 1013, 1014, 1015, 1016, 1017, 1018, 1019, 1020, 1021, 1022, 1023, 1024, 1025, 1026, 1027, 1028, 1029, 1030, 1031, 1032, 1033, 1034, 1035, 1036, 1037, 1038, 1039, 1040, 1041] (by decide +kernel) (by decide +kernel)
set_option maxRecDepth 100000 in
theorem gL_law_X10_stuck : GoodIn lwS (wsV RL 96 RX10 yX10_stuck wsX10_stuck) := goodIn_app (goodIn_of _ (by decide +kernel)) ggL_law_X10_stuck
set_option maxRecDepth 100000 in
theorem ggL_law_X9_link : GoodIn lwS wsX9_link := goodIn_r _ [900, 28, 20, 218, 219, 220, 2, 221, 16, 222, 223, 224, 225, 226, 227, 15, 228, 50, 229, 230, 231, 232, 49, 233, 234, 235, 236, 237, 238, 239, 240, 241, 242, 243, 244, 245, 246, 247, 248, 19, 249, 55, 56, 193, 194, 195, 196, 250, 251, 252, 253, 254, 54, 255, 256, 257, 258, 901, 902, 903, 27, 904, 75, 905, 906, 907, 908, 74, 365, 283, 284, 285, 286, 271, 272, 273, 274, 287, 987, 988, 989, 990, 991, 992, 993, 994, 995, 996, 997, 1042, 1043, 1044, 1045, 1046, 1053, 1054] (by decide +kernel) (by decide +kernel)
set_option maxRecDepth 100000 in
theorem gL_law_X9_link : GoodIn lwS (wsV RL 97 RX9 yX9_link wsX9_link) := goodIn_app (goodIn_of _ (by decide +kernel)) ggL_law_X9_link
set_option maxRecDepth 100000 in
theorem ggL_law_X10_link : GoodIn lwS wsX10_link := goodIn_r _ [912, 174, 375, 292, 293, 294, 5, 295, 201, 134, 132, 131, 130, 296, 297, 298, 299, 300, 301, 302, 303, 304, 320, 321, 322, 323, 998, 999, 1000, 1001, 1002, 1003, 1004, 1005, 1006, 1007, 1008, 1009, 1010, 1011, 1012, 1013, 1014, 1015, 1016, 1017, 1018, 1019, 1020, 1021, 1022, 1023, 1024, 1025, 1026, 1027, 1028, 1029, 1030, 1031, 1032, 1033, 1034, 1035, 1036, 1037, 1038, 1039, 1040, 1041] (by decide +kernel) (by decide +kernel)
set_option maxRecDepth 100000 in
theorem gL_law_X10_link : GoodIn lwS (wsV RL 100 RX10 yX10_link wsX10_link) := goodIn_app (goodIn_of _ (by decide +kernel)) ggL_law_X10_link
