set_option maxRecDepth 20000 in
theorem ggL_law_X9_receiptPrice : GoodIn wsL_law wsX9_receiptPrice := goodIn_r _ [1049, 202, 1034, 1035, 1036, 5, 1037, 814, 290, 291, 292, 293, 294, 295, 296, 297, 1121, 1122, 1123, 1124, 1125, 1126, 1127, 1128, 1129, 1130, 1131, 1132, 1133, 1134, 1135, 1136, 1137, 1138, 1139] (by decide +kernel) (by decide +kernel)
set_option maxRecDepth 20000 in
theorem gL_law_X9_receiptPrice : GoodIn wsL_law (wsV RL 232 RX9 yX9_receiptPrice wsX9_receiptPrice) := goodIn_app (goodIn_of _ (by decide +kernel)) ggL_law_X9_receiptPrice
set_option maxRecDepth 20000 in
theorem ggL_law_L_isReturned : GoodIn wsL_law wsL_isReturned := goodIn_ca (goodIn_r _ [1052, 343, 1053, 1054, 1055, 2, 1056, 1057, 1010, 1011, 1012, 1013, 351, 352, 25, 996, 1014, 997, 731, 732, 164, 733, 734, 1015, 1016, 1017, 1018, 1019, 1020, 1021, 1022, 1023, 1024, 130, 1025, 1026, 1027, 1028, 1029, 173, 1161, 1162, 1163, 1116, 1117, 1118, 1119, 1120, 1146, 1147, 1148, 1149, 1158, 1159, 1160] (by decide +kernel) (by decide +kernel)) (goodIn_sub (fun _ h => List.mem_append_right _ h) (by decide +kernel))
set_option maxRecDepth 20000 in
theorem gL_law_L_isReturned : GoodIn wsL_law (va_wsS RL 233 yL_isReturned wsL_isReturned) := goodIn_app (goodIn_of _ (by decide +kernel)) ggL_law_L_isReturned
set_option maxRecDepth 20000 in
theorem ggL_law_X9_isReturned : GoodIn wsL_law wsX9_isReturned := goodIn_r _ [1061, 204, 1034, 1035, 1036, 5, 1037, 814, 290, 291, 292, 293, 294, 295, 296, 297, 1121, 1122, 1123, 1124, 1125, 1126, 1127, 1128, 1129, 1130, 1131, 1132, 1133, 1134, 1135, 1136, 1137, 1138, 1139] (by decide +kernel) (by decide +kernel)
set_option maxRecDepth 20000 in
theorem gL_law_X9_isReturned : GoodIn wsL_law (wsV RL 235 RX9 yX9_isReturned wsX9_isReturned) := goodIn_app (goodIn_of _ (by decide +kernel)) ggL_law_X9_isReturned
set_option maxRecDepth 20000 in
theorem ggL_law_L_takeBack : GoodIn wsL_law wsL_takeBack := goodIn_ca (goodIn_ca (goodIn_r _ [1064, 343, 218, 1065, 1066, 1067, 2, 1068, 223, 224, 1057, 33, 1009, 21, 506, 25, 1010, 1011, 1012, 1013, 351, 352, 996, 1014, 997, 731, 732, 164, 733, 734, 1015, 1016, 1017, 1018, 1019, 1020, 1021, 1022, 1023, 1024, 130, 1025, 1026, 1027, 1028, 1029, 173, 511, 405, 406, 32, 407, 52, 512, 409, 410, 411, 412, 236, 232, 237, 413, 239, 240, 513, 514, 515, 516, 517, 518, 519, 20, 520, 58, 521, 522, 523, 524, 525, 526, 527, 528, 1069, 1070, 1071, 24, 1072, 1073, 747, 168, 1074, 1075, 1076, 1077, 746, 1078, 753, 801, 1079, 1161, 1162, 1163, 1116, 1117, 1118, 1119, 1120, 1143, 1144, 1145, 1146, 1147, 1148, 1149, 1158, 1159, 1160, 1155] (by decide +kernel) (by decide +kernel)) (goodIn_sub (fun _ h => List.mem_append_left _ (List.mem_append_left _ (List.mem_append_left _ (List.mem_append_right _ h)))) (by decide +kernel))) (goodIn_sub (fun _ h => List.mem_append_right _ h) (by decide +kernel))
set_option maxRecDepth 20000 in
theorem gL_law_L_takeBack : GoodIn wsL_law (va_wsS RL 236 yL_takeBack wsL_takeBack) := goodIn_app (goodIn_of _ (by decide +kernel)) ggL_law_L_takeBack
set_option maxRecDepth 20000 in
theorem ggL_law_X9_takeBack : GoodIn wsL_law wsX9_takeBack := goodIn_r _ [1083, 201, 197, 206, 204, 366, 205, 200, 202, 815, 1034, 1035, 1036, 5, 1037, 814, 290, 291, 292, 293, 294, 295, 296, 297, 440, 441, 442, 443, 287, 288, 289, 302, 303, 304, 305, 1121, 1122, 1123, 1124, 1125, 1126, 1127, 1128, 1129, 1130, 1131, 1132, 1133, 1134, 1135, 1136, 1137, 1138, 1139] (by decide +kernel) (by decide +kernel)
set_option maxRecDepth 20000 in
theorem gL_law_X9_takeBack : GoodIn wsL_law (wsV RL 238 RX9 yX9_takeBack wsX9_takeBack) := goodIn_app (goodIn_of _ (by decide +kernel)) ggL_law_X9_takeBack
set_option maxRecDepth 20000 in
theorem ggL_law_X8_takings : GoodIn wsL_law wsX8_takings := goodIn_r _ [1087, 25, 1088, 1116, 1117, 1118, 1119, 1120, 1146, 1147, 1148, 1149] (by decide +kernel) (by decide +kernel)
set_option maxRecDepth 20000 in
theorem gL_law_X8_takings : GoodIn wsL_law (wsV RL 239 RX8 yX8_takings wsX8_takings) := goodIn_app (goodIn_of _ (by decide +kernel)) ggL_law_X8_takings
set_option maxRecDepth 20000 in
theorem ggL_law_X9_takings : GoodIn wsL_law wsX9_takings := goodIn_r _ [1092, 297, 815, 1121, 1122, 1123, 1124, 1125, 1126, 1127, 1128, 1129, 1130, 1131, 1132, 1133, 1134, 1135, 1136, 1137, 1138, 1139] (by decide +kernel) (by decide +kernel)
set_option maxRecDepth 20000 in
theorem gL_law_X9_takings : GoodIn wsL_law (wsV RL 242 RX9 yX9_takings wsX9_takings) := goodIn_app (goodIn_of _ (by decide +kernel)) ggL_law_X9_takings
set_option maxRecDepth 20000 in
theorem ggL_law_L_cameIn : GoodIn wsL_law wsL_cameIn := goodIn_ca (goodIn_r _ [1095, 217, 1096, 1097, 1098, 2, 1099, 25, 507, 548, 549, 550, 508, 509, 510, 228, 229, 551, 522, 523, 32, 524, 52, 1116, 1117, 1118, 1119, 1120, 1146, 1147, 1148, 1149, 1155] (by decide +kernel) (by decide +kernel)) (goodIn_sub (fun _ h => List.mem_append_left _ (List.mem_append_left _ (List.mem_append_right _ h))) (by decide +kernel))
set_option maxRecDepth 20000 in
theorem gL_law_L_cameIn : GoodIn wsL_law (va_wsS RL 243 yL_cameIn wsL_cameIn) := goodIn_app (goodIn_of _ (by decide +kernel)) ggL_law_L_cameIn
