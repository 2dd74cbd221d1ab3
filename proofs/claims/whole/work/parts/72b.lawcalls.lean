set_option maxRecDepth 20000 in
theorem ggL_law_X9_wordCount : GoodIn wsL_law wsX9_wordCount := goodIn_r _ [339, 297, 282, 1121, 1122, 1123, 1124, 1125, 1126, 1127, 1128, 1129, 1130, 1131, 1132, 1133, 1134, 1135, 1136, 1137, 1138, 1139] (by decide +kernel) (by decide +kernel)
set_option maxRecDepth 20000 in
theorem gL_law_X9_wordCount : GoodIn wsL_law (wsV RL 141 RX9 yX9_wordCount wsX9_wordCount) := goodIn_app (goodIn_of _ (by decide +kernel)) ggL_law_X9_wordCount
set_option maxRecDepth 20000 in
theorem ggL_law_L_wordAt : GoodIn wsL_law wsL_wordAt := goodIn_ca (goodIn_r _ [342, 343, 344, 345, 346, 2, 347, 17, 261, 262, 263, 16, 264, 40, 348, 349, 350, 351, 352, 277, 253, 254, 39, 255, 256, 353, 258, 259, 260, 47, 1116, 1117, 1118, 1119, 1120, 1140, 1141, 1142, 1156, 1157] (by decide +kernel) (by decide +kernel)) (goodIn_sub (fun _ h => List.mem_append_right _ h) (by decide +kernel))
set_option maxRecDepth 20000 in
theorem gL_law_L_wordAt : GoodIn wsL_law (va_wsS RL 142 yL_wordAt wsL_wordAt) := goodIn_app (goodIn_of _ (by decide +kernel)) ggL_law_L_wordAt
set_option maxRecDepth 20000 in
theorem ggL_law_X9_wordAt : GoodIn wsL_law wsX9_wordAt := goodIn_r _ [357, 358, 359, 360, 5, 361, 282, 196, 362, 363, 364, 365, 366, 367, 368, 369, 370, 286, 206, 371, 372, 373, 287, 288, 289, 374, 375, 376, 293, 294, 295, 296, 297, 1121, 1122, 1123, 1124, 1125, 1126, 1127, 1128, 1129, 1130, 1131, 1132, 1133, 1134, 1135, 1136, 1137, 1138, 1139] (by decide +kernel) (by decide +kernel)
set_option maxRecDepth 20000 in
theorem gL_law_X9_wordAt : GoodIn wsL_law (wsV RL 145 RX9 yX9_wordAt wsX9_wordAt) := goodIn_app (goodIn_of _ (by decide +kernel)) ggL_law_X9_wordAt
set_option maxRecDepth 20000 in
theorem ggL_law_L_hasWord : GoodIn wsL_law wsL_hasWord := goodIn_ca (goodIn_r _ [379, 217, 380, 381, 382, 2, 383, 17, 225, 226, 227, 228, 229, 230, 231, 232, 233, 234, 235, 236, 237, 238, 239, 240, 241, 242, 243, 16, 244, 40, 245, 246, 247, 248, 249, 250, 251, 252, 253, 254, 39, 255, 256, 257, 258, 259, 260, 47, 1116, 1117, 1118, 1119, 1120, 1140, 1141, 1142, 1156, 1157] (by decide +kernel) (by decide +kernel)) (goodIn_sub (fun _ h => List.mem_append_left _ (List.mem_append_left _ (List.mem_append_right _ h))) (by decide +kernel))
set_option maxRecDepth 20000 in
theorem gL_law_L_hasWord : GoodIn wsL_law (va_wsS RL 146 yL_hasWord wsL_hasWord) := goodIn_app (goodIn_of _ (by decide +kernel)) ggL_law_L_hasWord
set_option maxRecDepth 20000 in
theorem ggL_law_X9_hasWord : GoodIn wsL_law wsX9_hasWord := goodIn_r _ [387, 283, 284, 5, 285, 286, 287, 288, 289, 290, 291, 292, 293, 294, 295, 296, 297, 298, 299, 300, 301, 282, 196, 1121, 1122, 1123, 1124, 1125, 1126, 1127, 1128, 1129, 1130, 1131, 1132, 1133, 1134, 1135, 1136, 1137, 1138, 1139] (by decide +kernel) (by decide +kernel)
set_option maxRecDepth 20000 in
theorem gL_law_X9_hasWord : GoodIn wsL_law (wsV RL 148 RX9 yX9_hasWord wsX9_hasWord) := goodIn_app (goodIn_of _ (by decide +kernel)) ggL_law_X9_hasWord
set_option maxRecDepth 20000 in
theorem ggL_law_L_anagramCount : GoodIn wsL_law wsL_anagramCount := goodIn_ca (goodIn_r _ [390, 217, 391, 392, 393, 2, 394, 17, 225, 226, 227, 228, 229, 230, 231, 232, 233, 234, 235, 236, 237, 238, 239, 240, 395, 396, 397, 16, 398, 399, 400, 401, 402, 403, 43, 41, 40, 404, 405, 406, 32, 407, 52, 408, 409, 410, 411, 412, 413, 414, 415, 416, 39, 417, 256, 252, 253, 254, 255, 257, 258, 259, 260, 47, 418, 419, 420, 421, 422, 423, 424, 425, 426, 427, 428, 429, 430, 431, 274, 275, 276, 277, 1116, 1117, 1118, 1119, 1120, 1140, 1141, 1142, 1155, 1156, 1157] (by decide +kernel) (by decide +kernel)) (goodIn_sub (fun _ h => List.mem_append_left _ (List.mem_append_left _ (List.mem_append_right _ h))) (by decide +kernel))
set_option maxRecDepth 20000 in
theorem gL_law_L_anagramCount : GoodIn wsL_law (va_wsS RL 149 yL_anagramCount wsL_anagramCount) := goodIn_app (goodIn_of _ (by decide +kernel)) ggL_law_L_anagramCount
set_option maxRecDepth 20000 in
theorem ggL_law_X9_anagramCount : GoodIn wsL_law wsX9_anagramCount := goodIn_r _ [435, 436, 437, 438, 5, 439, 283, 284, 285, 286, 287, 288, 289, 290, 291, 292, 293, 294, 295, 296, 297, 440, 441, 442, 443, 366, 206, 205, 444, 445, 446, 447, 282, 196, 362, 363, 364, 365, 367, 368, 369, 370, 371, 372, 373, 1121, 1122, 1123, 1124, 1125, 1126, 1127, 1128, 1129, 1130, 1131, 1132, 1133, 1134, 1135, 1136, 1137, 1138, 1139] (by decide +kernel) (by decide +kernel)
set_option maxRecDepth 20000 in
theorem gL_law_X9_anagramCount : GoodIn wsL_law (wsV RL 151 RX9 yX9_anagramCount wsX9_anagramCount) := goodIn_app (goodIn_of _ (by decide +kernel)) ggL_law_X9_anagramCount
set_option maxRecDepth 20000 in
theorem ggL_law_L_anagramAt : GoodIn wsL_law wsL_anagramAt := goodIn_ca (goodIn_ca (goodIn_r _ [450, 217, 343, 451, 452, 453, 2, 454, 17, 225, 226, 227, 228, 229, 230, 231, 232, 233, 234, 235, 236, 237, 238, 239, 240, 395, 396, 397, 16, 398, 399, 400, 401, 402, 403, 43, 41, 40, 404, 405, 406, 32, 407, 52, 408, 409, 410, 411, 412, 413, 414, 415, 416, 39, 417, 256, 252, 253, 254, 255, 257, 258, 259, 260, 47, 418, 419, 420, 421, 422, 423, 424, 425, 426, 427, 428, 429, 430, 431, 274, 275, 276, 348, 349, 350, 351, 352, 277, 353, 1116, 1117, 1118, 1119, 1120, 1140, 1141, 1142, 1155, 1156, 1157] (by decide +kernel) (by decide +kernel)) (goodIn_sub (fun _ h => List.mem_append_left _ (List.mem_append_left _ (List.mem_append_right _ h))) (by decide +kernel))) (goodIn_sub (fun _ h => List.mem_append_right _ h) (by decide +kernel))
set_option maxRecDepth 20000 in
theorem gL_law_L_anagramAt : GoodIn wsL_law (va_wsS RL 152 yL_anagramAt wsL_anagramAt) := goodIn_app (goodIn_of _ (by decide +kernel)) ggL_law_L_anagramAt
