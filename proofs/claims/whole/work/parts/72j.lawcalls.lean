set_option maxRecDepth 20000 in
theorem ggL_law_X9_cameIn : GoodIn wsL_law wsX9_cameIn := goodIn_r _ [1103, 199, 556, 557, 558, 5, 559, 290, 291, 292, 293, 294, 295, 296, 297, 1121, 1122, 1123, 1124, 1125, 1126, 1127, 1128, 1129, 1130, 1131, 1132, 1133, 1134, 1135, 1136, 1137, 1138, 1139] (by decide +kernel) (by decide +kernel)
set_option maxRecDepth 20000 in
theorem gL_law_X9_cameIn : GoodIn wsL_law (wsV RL 245 RX9 yX9_cameIn wsX9_cameIn) := goodIn_app (goodIn_of _ (by decide +kernel)) ggL_law_X9_cameIn
set_option maxRecDepth 20000 in
theorem ggL_law_L_soldPieces : GoodIn wsL_law wsL_soldPieces := goodIn_ca (goodIn_r _ [1106, 217, 1107, 1108, 1109, 2, 1110, 25, 1111, 548, 549, 550, 508, 509, 510, 228, 229, 551, 522, 523, 32, 524, 52, 1116, 1117, 1118, 1119, 1120, 1146, 1147, 1148, 1149, 1155] (by decide +kernel) (by decide +kernel)) (goodIn_sub (fun _ h => List.mem_append_left _ (List.mem_append_left _ (List.mem_append_right _ h))) (by decide +kernel))
set_option maxRecDepth 20000 in
theorem gL_law_L_soldPieces : GoodIn wsL_law (va_wsS RL 246 yL_soldPieces wsL_soldPieces) := goodIn_app (goodIn_of _ (by decide +kernel)) ggL_law_L_soldPieces
set_option maxRecDepth 20000 in
theorem ggL_law_X9_soldPieces : GoodIn wsL_law wsX9_soldPieces := goodIn_r _ [1115, 200, 556, 557, 558, 5, 559, 290, 291, 292, 293, 294, 295, 296, 297, 1121, 1122, 1123, 1124, 1125, 1126, 1127, 1128, 1129, 1130, 1131, 1132, 1133, 1134, 1135, 1136, 1137, 1138, 1139] (by decide +kernel) (by decide +kernel)
set_option maxRecDepth 20000 in
theorem gL_law_X9_soldPieces : GoodIn wsL_law (wsV RL 248 RX9 yX9_soldPieces wsX9_soldPieces) := goodIn_app (goodIn_of _ (by decide +kernel)) ggL_law_X9_soldPieces
