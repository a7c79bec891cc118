set_option maxRecDepth 100000 in
theorem ggL_law_X9_file : GoodIn lwS wsX9_file := goodIn_r _ [217, 24, 20, 218, 219, 220, 2, 221, 16, 222, 223, 224, 225, 226, 227, 15, 228, 50, 229, 230, 231, 232, 49, 233, 234, 235, 236, 237, 238, 239, 240, 241, 242, 243, 244, 245, 246, 247, 248, 19, 249, 55, 56, 193, 194, 195, 196, 250, 251, 252, 253, 254, 54, 255, 256, 257, 258, 259, 260, 261, 23, 262, 66, 263, 264, 265, 266, 64, 62, 68, 267, 268, 269, 270, 271, 272, 273, 274, 275, 276, 277, 278, 279, 280, 281, 67, 282, 283, 284, 285, 286, 287, 987, 988, 989, 990, 991, 992, 993, 994, 995, 996, 997, 1042, 1043, 1044, 1045, 1046, 1047, 1048, 1049, 1050, 1051, 1052] (by decide +kernel) (by decide +kernel)
set_option maxRecDepth 100000 in
theorem gL_law_X9_file : GoodIn lwS (wsV RL 34 RX9 yX9_file wsX9_file) := goodIn_app (goodIn_of _ (by decide +kernel)) ggL_law_X9_file
set_option maxRecDepth 100000 in
theorem ggL_law_X10_file : GoodIn lwS wsX10_file := goodIn_r _ [291, 174, 180, 133, 292, 293, 294, 5, 295, 201, 134, 132, 131, 130, 296, 297, 298, 299, 300, 301, 302, 303, 304, 305, 306, 307, 308, 309, 310, 311, 312, 175, 313, 314, 315, 316, 317, 318, 319, 320, 321, 322, 323, 998, 999, 1000, 1001, 1002, 1003, 1004, 1005, 1006, 1007, 1008, 1009, 1010, 1011, 1012, 1013, 1014, 1015, 1016, 1017, 1018, 1019, 1020, 1021, 1022, 1023, 1024, 1025, 1026, 1027, 1028, 1029, 1030, 1031, 1032, 1033, 1034, 1035, 1036, 1037, 1038, 1039, 1040, 1041] (by decide +kernel) (by decide +kernel)
set_option maxRecDepth 100000 in
theorem gL_law_X10_file : GoodIn lwS (wsV RL 37 RX10 yX10_file wsX10_file) := goodIn_app (goodIn_of _ (by decide +kernel)) ggL_law_X10_file
set_option maxRecDepth 100000 in
theorem ggL_law_X9_remove : GoodIn lwS wsX9_remove := goodIn_r _ [327, 24, 328, 329, 330, 23, 331, 66, 64, 332, 333, 334, 335, 67, 987, 988, 989, 990, 991, 992, 993, 994, 995, 996, 997, 1047, 1048, 1049, 1050, 1051, 1052] (by decide +kernel) (by decide +kernel)
set_option maxRecDepth 100000 in
theorem gL_law_X9_remove : GoodIn lwS (wsV RL 38 RX9 yX9_remove wsX9_remove) := goodIn_app (goodIn_of _ (by decide +kernel)) ggL_law_X9_remove
set_option maxRecDepth 100000 in
theorem ggL_law_X10_remove : GoodIn lwS wsX10_remove := goodIn_r _ [339, 174, 133, 340, 341, 342, 5, 343, 180, 998, 999, 1000, 1001, 1002, 1003, 1004, 1005, 1006, 1007, 1008, 1009, 1010, 1011, 1012, 1013, 1014, 1015, 1016, 1017, 1018, 1019, 1020, 1021, 1022, 1023, 1024, 1025, 1026, 1027, 1028, 1029, 1030, 1031, 1032, 1033, 1034, 1035, 1036, 1037, 1038, 1039, 1040, 1041] (by decide +kernel) (by decide +kernel)
set_option maxRecDepth 100000 in
theorem gL_law_X10_remove : GoodIn lwS (wsV RL 42 RX10 yX10_remove wsX10_remove) := goodIn_app (goodIn_of _ (by decide +kernel)) ggL_law_X10_remove
