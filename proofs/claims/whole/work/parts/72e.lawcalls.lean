set_option maxRecDepth 20000 in
theorem ggL_law_X9_basePriceOf : GoodIn wsL_law wsX9_basePriceOf := goodIn_r _ [598, 198, 556, 557, 558, 5, 559, 290, 291, 292, 293, 294, 295, 296, 297, 1121, 1122, 1123, 1124, 1125, 1126, 1127, 1128, 1129, 1130, 1131, 1132, 1133, 1134, 1135, 1136, 1137, 1138, 1139] (by decide +kernel) (by decide +kernel)
set_option maxRecDepth 20000 in
theorem gL_law_X9_basePriceOf : GoodIn wsL_law (wsV RL 182 RX9 yX9_basePriceOf wsX9_basePriceOf) := goodIn_app (goodIn_of _ (by decide +kernel)) ggL_law_X9_basePriceOf
set_option maxRecDepth 20000 in
theorem ggL_law_L_presentPriceOf : GoodIn wsL_law wsL_presentPriceOf := goodIn_ca (goodIn_r _ [601, 217, 602, 603, 604, 2, 605, 21, 548, 549, 550, 508, 509, 510, 228, 229, 606, 607, 608, 20, 609, 58, 610, 96, 97, 98, 579, 580, 581, 582, 59, 521, 522, 523, 32, 524, 52, 1116, 1117, 1118, 1119, 1120, 1143, 1144, 1145, 1155] (by decide +kernel) (by decide +kernel)) (goodIn_sub (fun _ h => List.mem_append_left _ (List.mem_append_left _ (List.mem_append_right _ h))) (by decide +kernel))
set_option maxRecDepth 20000 in
theorem gL_law_L_presentPriceOf : GoodIn wsL_law (va_wsS RL 183 yL_presentPriceOf wsL_presentPriceOf) := goodIn_app (goodIn_of _ (by decide +kernel)) ggL_law_L_presentPriceOf
set_option maxRecDepth 20000 in
theorem ggL_law_X9_presentPriceOf : GoodIn wsL_law wsX9_presentPriceOf := goodIn_r _ [614, 197, 290, 291, 5, 292, 293, 294, 295, 296, 297, 615, 616, 617, 618, 472, 96, 97, 98, 198, 1121, 1122, 1123, 1124, 1125, 1126, 1127, 1128, 1129, 1130, 1131, 1132, 1133, 1134, 1135, 1136, 1137, 1138, 1139] (by decide +kernel) (by decide +kernel)
set_option maxRecDepth 20000 in
theorem gL_law_X9_presentPriceOf : GoodIn wsL_law (wsV RL 185 RX9 yX9_presentPriceOf wsX9_presentPriceOf) := goodIn_app (goodIn_of _ (by decide +kernel)) ggL_law_X9_presentPriceOf
set_option maxRecDepth 20000 in
theorem ggL_law_L_weightOf : GoodIn wsL_law wsL_weightOf := goodIn_ca (goodIn_r _ [621, 217, 622, 623, 624, 2, 625, 21, 225, 226, 227, 228, 229, 230, 231, 232, 233, 234, 235, 236, 237, 238, 239, 240, 626, 627, 628, 20, 629, 60, 630, 631, 1116, 1117, 1118, 1119, 1120, 1143, 1144, 1145] (by decide +kernel) (by decide +kernel)) (goodIn_sub (fun _ h => List.mem_append_left _ (List.mem_append_left _ (List.mem_append_right _ h))) (by decide +kernel))
set_option maxRecDepth 20000 in
theorem gL_law_L_weightOf : GoodIn wsL_law (va_wsS RL 186 yL_weightOf wsL_weightOf) := goodIn_app (goodIn_of _ (by decide +kernel)) ggL_law_L_weightOf
set_option maxRecDepth 20000 in
theorem ggL_law_X9_weightOf : GoodIn wsL_law wsX9_weightOf := goodIn_r _ [635, 286, 283, 284, 5, 285, 287, 288, 289, 290, 291, 292, 293, 294, 295, 296, 297, 636, 637, 638, 210, 211, 212, 1121, 1122, 1123, 1124, 1125, 1126, 1127, 1128, 1129, 1130, 1131, 1132, 1133, 1134, 1135, 1136, 1137, 1138, 1139] (by decide +kernel) (by decide +kernel)
set_option maxRecDepth 20000 in
theorem gL_law_X9_weightOf : GoodIn wsL_law (wsV RL 188 RX9 yX9_weightOf wsX9_weightOf) := goodIn_app (goodIn_of _ (by decide +kernel)) ggL_law_X9_weightOf
set_option maxRecDepth 20000 in
theorem ggL_law_L_costOf : GoodIn wsL_law wsL_costOf := goodIn_ca (goodIn_ca (goodIn_r _ [641, 217, 313, 642, 643, 644, 2, 645, 318, 319, 21, 506, 225, 226, 227, 228, 229, 230, 231, 232, 233, 234, 235, 236, 237, 238, 239, 240, 646, 419, 420, 32, 421, 422, 423, 424, 425, 52, 412, 413, 426, 409, 410, 411, 647, 648, 649, 20, 650, 60, 58, 630, 631, 651, 607, 608, 609, 610, 96, 97, 98, 579, 580, 581, 582, 59, 521, 522, 523, 524, 652, 653, 654, 655, 656, 1116, 1117, 1118, 1119, 1120, 1143, 1144, 1145, 1155] (by decide +kernel) (by decide +kernel)) (goodIn_sub (fun _ h => List.mem_append_left _ (List.mem_append_right _ h)) (by decide +kernel))) (goodIn_sub (fun _ h => List.mem_append_left _ (List.mem_append_left _ (List.mem_append_right _ h))) (by decide +kernel))
set_option maxRecDepth 20000 in
theorem gL_law_L_costOf : GoodIn wsL_law (va_wsS RL 189 yL_costOf wsL_costOf) := goodIn_app (goodIn_of _ (by decide +kernel)) ggL_law_L_costOf
set_option maxRecDepth 20000 in
theorem ggL_law_X9_costOf : GoodIn wsL_law wsX9_costOf := goodIn_r _ [660, 283, 284, 5, 285, 286, 287, 288, 289, 290, 291, 292, 293, 294, 295, 296, 297, 440, 441, 442, 443, 366, 206, 205, 661, 662, 663, 664, 197, 665, 666, 667, 668, 207, 615, 616, 617, 618, 472, 96, 97, 98, 198, 636, 637, 638, 210, 211, 212, 302, 303, 304, 305, 1121, 1122, 1123, 1124, 1125, 1126, 1127, 1128, 1129, 1130, 1131, 1132, 1133, 1134, 1135, 1136, 1137, 1138, 1139] (by decide +kernel) (by decide +kernel)
set_option maxRecDepth 20000 in
theorem gL_law_X9_costOf : GoodIn wsL_law (wsV RL 191 RX9 yX9_costOf wsX9_costOf) := goodIn_app (goodIn_of _ (by decide +kernel)) ggL_law_X9_costOf
set_option maxRecDepth 20000 in
theorem ggL_law_L_missingLetter : GoodIn wsL_law wsL_missingLetter := goodIn_ca (goodIn_r _ [671, 217, 672, 673, 674, 2, 675, 21, 506, 225, 226, 227, 228, 229, 230, 231, 232, 233, 234, 235, 236, 237, 238, 239, 240, 676, 677, 678, 32, 679, 52, 680, 681, 682, 1116, 1117, 1118, 1119, 1120, 1143, 1144, 1145, 1155] (by decide +kernel) (by decide +kernel)) (goodIn_sub (fun _ h => List.mem_append_left _ (List.mem_append_left _ (List.mem_append_right _ h))) (by decide +kernel))
set_option maxRecDepth 20000 in
theorem gL_law_L_missingLetter : GoodIn wsL_law (va_wsS RL 192 yL_missingLetter wsL_missingLetter) := goodIn_app (goodIn_of _ (by decide +kernel)) ggL_law_L_missingLetter
