set_option maxRecDepth 20000 in
theorem ggL_law_X9_cut : GoodIn wsL_law wsX9_cut := goodIn_r _ [536, 197, 206, 199, 283, 284, 5, 285, 286, 287, 288, 289, 290, 291, 292, 293, 294, 295, 296, 297, 440, 441, 442, 443, 366, 205, 302, 303, 304, 305, 537, 538, 539, 540, 1121, 1122, 1123, 1124, 1125, 1126, 1127, 1128, 1129, 1130, 1131, 1132, 1133, 1134, 1135, 1136, 1137, 1138, 1139] (by decide +kernel) (by decide +kernel)
set_option maxRecDepth 20000 in
theorem gL_law_X9_cut : GoodIn wsL_law (wsV RL 168 RX9 yX9_cut wsX9_cut) := goodIn_app (goodIn_of _ (by decide +kernel)) ggL_law_X9_cut
set_option maxRecDepth 20000 in
theorem ggL_law_L_stockOf : GoodIn wsL_law wsL_stockOf := goodIn_ca (goodIn_r _ [543, 217, 544, 545, 546, 2, 547, 21, 506, 548, 549, 550, 508, 509, 510, 228, 229, 551, 522, 523, 32, 524, 52, 1116, 1117, 1118, 1119, 1120, 1143, 1144, 1145, 1155] (by decide +kernel) (by decide +kernel)) (goodIn_sub (fun _ h => List.mem_append_left _ (List.mem_append_left _ (List.mem_append_right _ h))) (by decide +kernel))
set_option maxRecDepth 20000 in
theorem gL_law_L_stockOf : GoodIn wsL_law (va_wsS RL 169 yL_stockOf wsL_stockOf) := goodIn_app (goodIn_of _ (by decide +kernel)) ggL_law_L_stockOf
set_option maxRecDepth 20000 in
theorem ggL_law_X9_stockOf : GoodIn wsL_law wsX9_stockOf := goodIn_r _ [555, 197, 556, 557, 558, 5, 559, 290, 291, 292, 293, 294, 295, 296, 297, 1121, 1122, 1123, 1124, 1125, 1126, 1127, 1128, 1129, 1130, 1131, 1132, 1133, 1134, 1135, 1136, 1137, 1138, 1139] (by decide +kernel) (by decide +kernel)
set_option maxRecDepth 20000 in
theorem gL_law_X9_stockOf : GoodIn wsL_law (wsV RL 171 RX9 yX9_stockOf wsX9_stockOf) := goodIn_app (goodIn_of _ (by decide +kernel)) ggL_law_X9_stockOf
set_option maxRecDepth 20000 in
theorem ggL_law_X8_totalStock : GoodIn wsL_law wsX8_totalStock := goodIn_r _ [563, 21, 506, 529, 530, 531, 32, 532, 52, 1116, 1117, 1118, 1119, 1120, 1143, 1144, 1145, 1155] (by decide +kernel) (by decide +kernel)
set_option maxRecDepth 20000 in
theorem gL_law_X8_totalStock : GoodIn wsL_law (wsV RL 172 RX8 yX8_totalStock wsX8_totalStock) := goodIn_app (goodIn_of _ (by decide +kernel)) ggL_law_X8_totalStock
set_option maxRecDepth 20000 in
theorem ggL_law_X9_totalStock : GoodIn wsL_law wsX9_totalStock := goodIn_r _ [567, 297, 537, 538, 539, 5, 540, 197, 1121, 1122, 1123, 1124, 1125, 1126, 1127, 1128, 1129, 1130, 1131, 1132, 1133, 1134, 1135, 1136, 1137, 1138, 1139] (by decide +kernel) (by decide +kernel)
set_option maxRecDepth 20000 in
theorem gL_law_X9_totalStock : GoodIn wsL_law (wsV RL 175 RX9 yX9_totalStock wsX9_totalStock) := goodIn_app (goodIn_of _ (by decide +kernel)) ggL_law_X9_totalStock
set_option maxRecDepth 20000 in
theorem ggL_law_L_setBasePrice : GoodIn wsL_law wsL_setBasePrice := goodIn_ca (goodIn_r _ [570, 217, 571, 572, 573, 2, 574, 21, 548, 549, 550, 508, 509, 510, 228, 229, 575, 576, 577, 20, 578, 59, 579, 580, 581, 582, 1116, 1117, 1118, 1119, 1120, 1143, 1144, 1145] (by decide +kernel) (by decide +kernel)) (goodIn_sub (fun _ h => List.mem_append_left _ (List.mem_append_left _ (List.mem_append_right _ h))) (by decide +kernel))
set_option maxRecDepth 20000 in
theorem gL_law_L_setBasePrice : GoodIn wsL_law (va_wsS RL 176 yL_setBasePrice wsL_setBasePrice) := goodIn_app (goodIn_of _ (by decide +kernel)) ggL_law_L_setBasePrice
set_option maxRecDepth 20000 in
theorem ggL_law_X9_setBasePrice : GoodIn wsL_law wsX9_setBasePrice := goodIn_r _ [586, 198, 290, 291, 5, 292, 293, 294, 295, 296, 297, 1121, 1122, 1123, 1124, 1125, 1126, 1127, 1128, 1129, 1130, 1131, 1132, 1133, 1134, 1135, 1136, 1137, 1138, 1139] (by decide +kernel) (by decide +kernel)
set_option maxRecDepth 20000 in
theorem gL_law_X9_setBasePrice : GoodIn wsL_law (wsV RL 179 RX9 yX9_setBasePrice wsX9_setBasePrice) := goodIn_app (goodIn_of _ (by decide +kernel)) ggL_law_X9_setBasePrice
set_option maxRecDepth 20000 in
theorem ggL_law_L_basePriceOf : GoodIn wsL_law wsL_basePriceOf := goodIn_ca (goodIn_r _ [589, 217, 590, 591, 592, 2, 593, 21, 548, 549, 550, 508, 509, 510, 228, 229, 594, 580, 581, 20, 582, 59, 1116, 1117, 1118, 1119, 1120, 1143, 1144, 1145] (by decide +kernel) (by decide +kernel)) (goodIn_sub (fun _ h => List.mem_append_left _ (List.mem_append_left _ (List.mem_append_right _ h))) (by decide +kernel))
set_option maxRecDepth 20000 in
theorem gL_law_L_basePriceOf : GoodIn wsL_law (va_wsS RL 180 yL_basePriceOf wsL_basePriceOf) := goodIn_app (goodIn_of _ (by decide +kernel)) ggL_law_L_basePriceOf
