set_option maxRecDepth 100000 in
theorem ggL_law_X9_linkOf : GoodIn lwS wsX9_linkOf := goodIn_r _ [916, 28, 24, 917, 918, 919, 27, 920, 75, 921, 922, 923, 924, 74, 925, 926, 927, 23, 928, 66, 64, 62, 929, 361, 362, 19, 363, 364, 268, 269, 270, 55, 56, 271, 272, 273, 274, 54, 275, 276, 235, 277, 785, 987, 988, 989, 990, 991, 992, 993, 994, 995, 996, 997, 1044, 1045, 1046, 1053, 1054, 1047, 1048, 1049, 1050, 1051, 1052] (by decide +kernel) (by decide +kernel)
set_option maxRecDepth 100000 in
theorem gL_law_X9_linkOf : GoodIn lwS (wsV RL 101 RX9 yX9_linkOf wsX9_linkOf) := goodIn_app (goodIn_of _ (by decide +kernel)) ggL_law_X9_linkOf
set_option maxRecDepth 100000 in
theorem ggL_law_X10_linkOf : GoodIn lwS wsX10_linkOf := goodIn_r _ [933, 174, 375, 132, 131, 180, 133, 934, 935, 936, 5, 937, 130, 313, 314, 315, 316, 998, 999, 1000, 1001, 1002, 1003, 1004, 1005, 1006, 1007, 1008, 1009, 1010, 1011, 1012, 1013, 1014, 1015, 1016, 1017, 1018, 1019, 1020, 1021, 1022, 1023, 1024, 1025, 1026, 1027, 1028, 1029, 1030, 1031, 1032, 1033, 1034, 1035, 1036, 1037, 1038, 1039, 1040, 1041] (by decide +kernel) (by decide +kernel)
set_option maxRecDepth 100000 in
theorem gL_law_X10_linkOf : GoodIn lwS (wsV RL 104 RX10 yX10_linkOf wsX10_linkOf) := goodIn_app (goodIn_of _ (by decide +kernel)) ggL_law_X10_linkOf
set_option maxRecDepth 100000 in
theorem ggL_law_L_of : GoodIn lwS wsLO := goodIn_ca (goodIn_r _ [941, 942, 943, 944, 945, 2, 946, 947, 948, 24, 328, 329, 330, 23, 331, 66, 64, 352, 353, 354, 355, 62, 949, 950, 951, 19, 952, 271, 272, 273, 274, 56, 54, 785, 987, 988, 989, 990, 991, 992, 993, 994, 995, 996, 997, 1044, 1045, 1046, 1047, 1048, 1049, 1050, 1051, 1052] (by decide +kernel) (by decide +kernel)) (goodIn_sub (fun _ h => List.mem_append_right _ h) (by decide +kernel))
set_option maxRecDepth 100000 in
theorem gL_law_L_of : GoodIn lwS (va_wsS RL 105 yL_of wsLO) := goodIn_app (goodIn_of _ (by decide +kernel)) ggL_law_L_of
set_option maxRecDepth 100000 in
theorem ggL_law_X10_of : GoodIn lwS wsX10_of := goodIn_r _ [956, 174, 131, 132, 130, 340, 341, 342, 5, 343, 180, 133, 296, 297, 298, 934, 935, 936, 937, 998, 999, 1000, 1001, 1002, 1003, 1004, 1005, 1006, 1007, 1008, 1009, 1010, 1011, 1012, 1013, 1014, 1015, 1016, 1017, 1018, 1019, 1020, 1021, 1022, 1023, 1024, 1025, 1026, 1027, 1028, 1029, 1030, 1031, 1032, 1033, 1034, 1035, 1036, 1037, 1038, 1039, 1040, 1041] (by decide +kernel) (by decide +kernel)
set_option maxRecDepth 100000 in
theorem gL_law_X10_of : GoodIn lwS (wsV RL 110 RX10 yX10_of wsX10_of) := goodIn_app (goodIn_of _ (by decide +kernel)) ggL_law_X10_of
