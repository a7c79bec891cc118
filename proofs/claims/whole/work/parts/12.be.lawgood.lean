set_option maxRecDepth 100000 in
theorem ggL_law_X9_rule : GoodIn lwS wsX9_rule := goodIn_r _ [387, 41, 16, 43, 40, 42, 388, 389, 390, 39, 391, 121, 122, 123, 124, 392, 393, 394, 395, 396, 194, 195, 15, 196, 50, 397, 230, 231, 232, 49, 398, 234, 235, 236, 237, 238, 239, 240, 241, 242, 243, 244, 245, 399, 400, 401, 402, 403, 404, 405, 406, 407, 408, 409, 118, 117, 410, 411, 412, 413, 414, 415, 416, 417, 418, 419, 420, 421, 422, 423, 424, 425, 119, 120, 255, 256, 257, 258, 426, 427, 428, 429, 430, 431, 432, 433, 987, 988, 989, 990, 991, 992, 993, 994, 995, 996, 997, 1067, 1068, 1069, 1070, 1071, 1072, 1073, 1074, 1042, 1043] (by decide +kernel) (by decide +kernel)
set_option maxRecDepth 100000 in
theorem gL_law_X9_rule : GoodIn lwS (wsV RL 51 RX9 yX9_rule wsX9_rule) := goodIn_app (goodIn_of _ (by decide +kernel)) ggL_law_X9_rule
set_option maxRecDepth 100000 in
theorem ggL_law_X10_rule : GoodIn lwS wsX10_rule := goodIn_r _ [437, 174, 438, 439, 201, 440, 141, 441, 442, 443, 135, 138, 136, 139, 137, 140, 444, 445, 446, 5, 447, 134, 299, 300, 301, 302, 303, 304, 448, 449, 450, 451, 452, 453, 454, 455, 296, 297, 298, 456, 457, 458, 459, 998, 999, 1000, 1001, 1002, 1003, 1004, 1005, 1006, 1007, 1008, 1009, 1010, 1011, 1012, 1013, 1014, 1015, 1016, 1017, 1018, 1019, 1020, 1021, 1022, 1023, 1024, 1025, 1026, 1027, 1028, 1029, 1030, 1031, 1032, 1033, 1034, 1035, 1036, 1037, 1038, 1039, 1040, 1041] (by decide +kernel) (by decide +kernel)
set_option maxRecDepth 100000 in
theorem gL_law_X10_rule : GoodIn lwS (wsV RL 55 RX10 yX10_rule wsX10_rule) := goodIn_app (goodIn_of _ (by decide +kernel)) ggL_law_X10_rule
set_option maxRecDepth 100000 in
theorem ggL_law_X9_place : GoodIn lwS wsX9_place := goodIn_r _ [463, 43, 987, 988, 989, 990, 991, 992, 993, 994, 995, 996, 997] (by decide +kernel) (by decide +kernel)
set_option maxRecDepth 100000 in
theorem gL_law_X9_place : GoodIn lwS (wsV RL 56 RX9 yX9_place wsX9_place) := goodIn_app (goodIn_of _ (by decide +kernel)) ggL_law_X9_place
set_option maxRecDepth 100000 in
theorem ggL_law_X10_place : GoodIn lwS wsX10_place := goodIn_r _ [467, 174, 141, 998, 999, 1000, 1001, 1002, 1003, 1004, 1005, 1006, 1007, 1008, 1009, 1010, 1011, 1012, 1013, 1014, 1015, 1016, 1017, 1018, 1019, 1020, 1021, 1022, 1023, 1024, 1025, 1026, 1027, 1028, 1029, 1030, 1031, 1032, 1033, 1034, 1035, 1036, 1037, 1038, 1039, 1040, 1041] (by decide +kernel) (by decide +kernel)
set_option maxRecDepth 100000 in
theorem gL_law_X10_place : GoodIn lwS (wsV RL 59 RX10 yX10_place wsX10_place) := goodIn_app (goodIn_of _ (by decide +kernel)) ggL_law_X10_place
