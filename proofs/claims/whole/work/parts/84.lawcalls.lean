set_option maxRecDepth 20000 in
theorem ggL_law_X8_init : GoodIn wsL_law wsX8_init := goodIn_r _ [10, 11, 12, 13, 14, 15, 16, 17, 18, 19, 20, 21, 22, 23, 24, 25, 26, 27, 28, 29, 30, 31, 32, 33, 34, 35, 36, 37, 38, 39, 40, 41, 42, 43, 44, 45, 46, 6, 47, 48, 49, 50, 51, 52, 53, 54, 55, 56, 57, 58, 59, 60, 61, 62, 63, 64, 65, 66, 67, 68, 69, 70, 71, 72, 73, 74, 75, 76, 77, 78, 79, 80, 81, 82, 83, 84, 85, 86, 87, 88, 89, 90, 91, 92, 93, 94, 95, 96, 97, 98, 99, 100, 101, 102, 103, 104, 105, 106, 107, 108, 109, 110, 111, 112, 113, 114, 115, 116, 117, 118, 119, 120, 121, 122, 123, 124, 125, 126, 127, 128, 129, 130, 131, 132, 133, 134, 135, 136, 137, 138, 139, 140, 141, 142, 143, 144, 145, 146, 147, 148, 149, 150, 151, 152, 153, 154, 155, 156, 157, 158, 159, 160, 161, 162, 163, 164, 165, 166, 167, 168, 169, 170, 171, 172, 173, 174, 175, 176, 177, 178, 179, 180, 181, 182, 183, 184, 185, 186, 187, 188, 189, 190, 191, 1140, 1141, 1142, 1116, 1117, 1118, 1119, 1120, 1143, 1144, 1145, 1146, 1147, 1148, 1149, 1150, 1151, 1152, 1153, 1154, 1155, 1156, 1157, 1158, 1159, 1160] (by decide +kernel) (by decide +kernel)
set_option maxRecDepth 20000 in
theorem gL_law_X8_init : GoodIn wsL_law (wsX8_init) := ggL_law_X8_init
set_option maxRecDepth 20000 in
theorem ggL_law_X9_init : GoodIn wsL_law wsX9_init := goodIn_r _ [194, 195, 12, 13, 6, 196, 51, 197, 198, 199, 200, 201, 202, 203, 204, 205, 206, 207, 208, 209, 210, 211, 5, 212, 1121, 1122, 1123, 1124, 1125, 1126, 1127, 1128, 1129, 1130, 1131, 1132, 1133, 1134, 1135, 1136, 1137, 1138, 1139] (by decide +kernel) (by decide +kernel)
set_option maxRecDepth 20000 in
theorem gL_law_X9_init : GoodIn wsL_law (wsX9_init) := ggL_law_X9_init
set_option maxRecDepth 20000 in
theorem ggL_law_L_addWord : GoodIn wsL_law wsL_addWord := goodIn_ca (goodIn_ca (goodIn_r _ [216, 217, 218, 219, 220, 221, 2, 222, 223, 224, 17, 225, 226, 227, 228, 229, 230, 231, 232, 233, 234, 235, 236, 237, 238, 239, 240, 241, 242, 243, 16, 244, 40, 245, 246, 247, 248, 249, 250, 251, 252, 253, 254, 39, 255, 256, 257, 258, 259, 260, 47, 261, 262, 263, 264, 265, 266, 267, 268, 269, 270, 271, 272, 273, 274, 275, 276, 277, 1116, 1117, 1118, 1119, 1120, 1140, 1141, 1142, 1156, 1157] (by decide +kernel) (by decide +kernel)) (goodIn_sub (fun _ h => List.mem_append_left _ (List.mem_append_left _ (List.mem_append_left _ (List.mem_append_right _ h)))) (by decide +kernel))) (goodIn_sub (fun _ h => List.mem_append_left _ (List.mem_append_left _ (List.mem_append_right _ h))) (by decide +kernel))
set_option maxRecDepth 20000 in
theorem gL_law_L_addWord : GoodIn wsL_law (va_wsS RL 125 yL_addWord wsL_addWord) := goodIn_app (goodIn_of _ (by decide +kernel)) ggL_law_L_addWord
set_option maxRecDepth 20000 in
theorem ggL_law_X9_addWord : GoodIn wsL_law wsX9_addWord := goodIn_r _ [281, 282, 196, 283, 284, 5, 285, 286, 287, 288, 289, 290, 291, 292, 293, 294, 295, 296, 297, 298, 299, 300, 301, 302, 303, 304, 305, 1121, 1122, 1123, 1124, 1125, 1126, 1127, 1128, 1129, 1130, 1131, 1132, 1133, 1134, 1135, 1136, 1137, 1138, 1139] (by decide +kernel) (by decide +kernel)
set_option maxRecDepth 20000 in
theorem gL_law_X9_addWord : GoodIn wsL_law (wsV RL 130 RX9 yX9_addWord wsX9_addWord) := goodIn_app (goodIn_of _ (by decide +kernel)) ggL_law_X9_addWord
set_option maxRecDepth 20000 in
theorem ggL_law_X9_thrown : GoodIn wsL_law wsX9_thrown := goodIn_r _ [309, 297, 1121, 1122, 1123, 1124, 1125, 1126, 1127, 1128, 1129, 1130, 1131, 1132, 1133, 1134, 1135, 1136, 1137, 1138, 1139] (by decide +kernel) (by decide +kernel)
set_option maxRecDepth 20000 in
theorem gL_law_X9_thrown : GoodIn wsL_law (wsV RL 131 RX9 yX9_thrown wsX9_thrown) := goodIn_app (goodIn_of _ (by decide +kernel)) ggL_law_X9_thrown
set_option maxRecDepth 20000 in
theorem ggL_law_L_removeWord : GoodIn wsL_law wsL_removeWord := goodIn_ca (goodIn_ca (goodIn_r _ [312, 217, 313, 314, 315, 316, 2, 317, 318, 319, 17, 225, 226, 227, 228, 229, 230, 231, 232, 233, 234, 235, 236, 237, 238, 239, 240, 241, 242, 243, 16, 244, 40, 245, 246, 247, 248, 249, 250, 251, 252, 253, 254, 39, 255, 256, 257, 258, 259, 260, 47, 320, 321, 322, 323, 324, 325, 326, 327, 261, 262, 263, 264, 277, 1116, 1117, 1118, 1119, 1120, 1140, 1141, 1142, 1156, 1157] (by decide +kernel) (by decide +kernel)) (goodIn_sub (fun _ h => List.mem_append_left _ (List.mem_append_right _ h)) (by decide +kernel))) (goodIn_sub (fun _ h => List.mem_append_left _ (List.mem_append_left _ (List.mem_append_right _ h))) (by decide +kernel))
set_option maxRecDepth 20000 in
theorem gL_law_L_removeWord : GoodIn wsL_law (va_wsS RL 135 yL_removeWord wsL_removeWord) := goodIn_app (goodIn_of _ (by decide +kernel)) ggL_law_L_removeWord
set_option maxRecDepth 20000 in
theorem ggL_law_X9_removeWord : GoodIn wsL_law wsX9_removeWord := goodIn_r _ [331, 282, 196, 283, 284, 5, 285, 286, 287, 288, 289, 290, 291, 292, 293, 294, 295, 296, 297, 298, 299, 300, 301, 302, 303, 304, 305, 1121, 1122, 1123, 1124, 1125, 1126, 1127, 1128, 1129, 1130, 1131, 1132, 1133, 1134, 1135, 1136, 1137, 1138, 1139] (by decide +kernel) (by decide +kernel)
set_option maxRecDepth 20000 in
theorem gL_law_X9_removeWord : GoodIn wsL_law (wsV RL 137 RX9 yX9_removeWord wsX9_removeWord) := goodIn_app (goodIn_of _ (by decide +kernel)) ggL_law_X9_removeWord
set_option maxRecDepth 20000 in
theorem ggL_law_X8_wordCount : GoodIn wsL_law wsX8_wordCount := goodIn_r _ [335, 17, 261, 262, 263, 16, 264, 40, 277, 253, 254, 39, 255, 256, 1116, 1117, 1118, 1119, 1120, 1140, 1141, 1142, 1156, 1157] (by decide +kernel) (by decide +kernel)
set_option maxRecDepth 20000 in
theorem gL_law_X8_wordCount : GoodIn wsL_law (wsV RL 138 RX8 yX8_wordCount wsX8_wordCount) := goodIn_app (goodIn_of _ (by decide +kernel)) ggL_law_X8_wordCount
set_option maxRecDepth 20000 in
theorem ggL_law_X9_wordCount : GoodIn wsL_law wsX9_wordCount := goodIn_r _ [339, 297, 282, 1121, 1122, 1123, 1124, 1125, 1126, 1127, 1128, 1129, 1130, 1131, 1132, 1133, 1134, 1135, 1136, 1137, 1138, 1139] (by decide +kernel) (by decide +kernel)
set_option maxRecDepth 20000 in
theorem gL_law_X9_wordCount : GoodIn wsL_law (wsV RL 141 RX9 yX9_wordCount wsX9_wordCount) := goodIn_app (goodIn_of _ (by decide +kernel)) ggL_law_X9_wordCount
set_option maxRecDepth 20000 in
theorem ggL_law_L_wordAt : GoodIn wsL_law wsL_wordAt := goodIn_ca (goodIn_r _ [342, 343, 344, 345, 346, 2, 347, 17, 261, 262, 263, 16, 264, 40, 348, 349, 350, 351, 352, 277, 253, 254, 39, 255, 256, 353, 258, 259, 260, 47, 1116, 1117, 1118, 1119, 1120, 1140, 1141, 1142, 1156, 1157] (by decide +kernel) (by decide +kernel)) (goodIn_sub (fun _ h => List.mem_append_right _ h) (by decide +kernel))
set_option maxRecDepth 20000 in
theorem gL_law_L_wordAt : GoodIn wsL_law (va_wsS RL 142 yL_wordAt wsL_wordAt) := goodIn_app (goodIn_of _ (by decide +kernel)) ggL_law_L_wordAt
set_option maxRecDepth 20000 in
theorem ggL_law_X9_wordAt : GoodIn wsL_law wsX9_wordAt := goodIn_r _ [357, 358, 359, 360, 5, 361, 282, 196, 362, 363, 364, 365, 366, 367, 368, 369, 370, 286, 206, 371, 372, 373, 287, 288, 289, 374, 375, 376, 293, 294, 295, 296, 297, 1121, 1122, 1123, 1124, 1125, 1126, 1127, 1128, 1129, 1130, 1131, 1132, 1133, 1134, 1135, 1136, 1137, 1138, 1139] (by decide +kernel) (by decide +kernel)
set_option maxRecDepth 20000 in
theorem gL_law_X9_wordAt : GoodIn wsL_law (wsV RL 145 RX9 yX9_wordAt wsX9_wordAt) := goodIn_app (goodIn_of _ (by decide +kernel)) ggL_law_X9_wordAt
set_option maxRecDepth 20000 in
theorem ggL_law_L_hasWord : GoodIn wsL_law wsL_hasWord := goodIn_ca (goodIn_r _ [379, 217, 380, 381, 382, 2, 383, 17, 225, 226, 227, 228, 229, 230, 231, 232, 233, 234, 235, 236, 237, 238, 239, 240, 241, 242, 243, 16, 244, 40, 245, 246, 247, 248, 249, 250, 251, 252, 253, 254, 39, 255, 256, 257, 258, 259, 260, 47, 1116, 1117, 1118, 1119, 1120, 1140, 1141, 1142, 1156, 1157] (by decide +kernel) (by decide +kernel)) (goodIn_sub (fun _ h => List.mem_append_left _ (List.mem_append_left _ (List.mem_append_right _ h))) (by decide +kernel))
set_option maxRecDepth 20000 in
theorem gL_law_L_hasWord : GoodIn wsL_law (va_wsS RL 146 yL_hasWord wsL_hasWord) := goodIn_app (goodIn_of _ (by decide +kernel)) ggL_law_L_hasWord
set_option maxRecDepth 20000 in
theorem ggL_law_X9_hasWord : GoodIn wsL_law wsX9_hasWord := goodIn_r _ [387, 283, 284, 5, 285, 286, 287, 288, 289, 290, 291, 292, 293, 294, 295, 296, 297, 298, 299, 300, 301, 282, 196, 1121, 1122, 1123, 1124, 1125, 1126, 1127, 1128, 1129, 1130, 1131, 1132, 1133, 1134, 1135, 1136, 1137, 1138, 1139] (by decide +kernel) (by decide +kernel)
set_option maxRecDepth 20000 in
theorem gL_law_X9_hasWord : GoodIn wsL_law (wsV RL 148 RX9 yX9_hasWord wsX9_hasWord) := goodIn_app (goodIn_of _ (by decide +kernel)) ggL_law_X9_hasWord
set_option maxRecDepth 20000 in
theorem ggL_law_L_anagramCount : GoodIn wsL_law wsL_anagramCount := goodIn_ca (goodIn_r _ [390, 217, 391, 392, 393, 2, 394, 17, 225, 226, 227, 228, 229, 230, 231, 232, 233, 234, 235, 236, 237, 238, 239, 240, 395, 396, 397, 16, 398, 399, 400, 401, 402, 403, 43, 41, 40, 404, 405, 406, 32, 407, 52, 408, 409, 410, 411, 412, 413, 414, 415, 416, 39, 417, 256, 252, 253, 254, 255, 257, 258, 259, 260, 47, 418, 419, 420, 421, 422, 423, 424, 425, 426, 427, 428, 429, 430, 431, 274, 275, 276, 277, 1116, 1117, 1118, 1119, 1120, 1140, 1141, 1142, 1155, 1156, 1157] (by decide +kernel) (by decide +kernel)) (goodIn_sub (fun _ h => List.mem_append_left _ (List.mem_append_left _ (List.mem_append_right _ h))) (by decide +kernel))
set_option maxRecDepth 20000 in
theorem gL_law_L_anagramCount : GoodIn wsL_law (va_wsS RL 149 yL_anagramCount wsL_anagramCount) := goodIn_app (goodIn_of _ (by decide +kernel)) ggL_law_L_anagramCount
set_option maxRecDepth 20000 in
theorem ggL_law_X9_anagramCount : GoodIn wsL_law wsX9_anagramCount := goodIn_r _ [435, 436, 437, 438, 5, 439, 283, 284, 285, 286, 287, 288, 289, 290, 291, 292, 293, 294, 295, 296, 297, 440, 441, 442, 443, 366, 206, 205, 444, 445, 446, 447, 282, 196, 362, 363, 364, 365, 367, 368, 369, 370, 371, 372, 373, 1121, 1122, 1123, 1124, 1125, 1126, 1127, 1128, 1129, 1130, 1131, 1132, 1133, 1134, 1135, 1136, 1137, 1138, 1139] (by decide +kernel) (by decide +kernel)
set_option maxRecDepth 20000 in
theorem gL_law_X9_anagramCount : GoodIn wsL_law (wsV RL 151 RX9 yX9_anagramCount wsX9_anagramCount) := goodIn_app (goodIn_of _ (by decide +kernel)) ggL_law_X9_anagramCount
set_option maxRecDepth 20000 in
theorem ggL_law_L_anagramAt : GoodIn wsL_law wsL_anagramAt := goodIn_ca (goodIn_ca (goodIn_r _ [450, 217, 343, 451, 452, 453, 2, 454, 17, 225, 226, 227, 228, 229, 230, 231, 232, 233, 234, 235, 236, 237, 238, 239, 240, 395, 396, 397, 16, 398, 399, 400, 401, 402, 403, 43, 41, 40, 404, 405, 406, 32, 407, 52, 408, 409, 410, 411, 412, 413, 414, 415, 416, 39, 417, 256, 252, 253, 254, 255, 257, 258, 259, 260, 47, 418, 419, 420, 421, 422, 423, 424, 425, 426, 427, 428, 429, 430, 431, 274, 275, 276, 348, 349, 350, 351, 352, 277, 353, 1116, 1117, 1118, 1119, 1120, 1140, 1141, 1142, 1155, 1156, 1157] (by decide +kernel) (by decide +kernel)) (goodIn_sub (fun _ h => List.mem_append_left _ (List.mem_append_left _ (List.mem_append_right _ h))) (by decide +kernel))) (goodIn_sub (fun _ h => List.mem_append_right _ h) (by decide +kernel))
set_option maxRecDepth 20000 in
theorem gL_law_L_anagramAt : GoodIn wsL_law (va_wsS RL 152 yL_anagramAt wsL_anagramAt) := goodIn_app (goodIn_of _ (by decide +kernel)) ggL_law_L_anagramAt
set_option maxRecDepth 20000 in
theorem ggL_law_X9_anagramAt : GoodIn wsL_law wsX9_anagramAt := goodIn_r _ [458, 459, 460, 461, 5, 462, 283, 284, 285, 286, 287, 288, 289, 290, 291, 292, 293, 294, 295, 296, 297, 440, 441, 442, 443, 366, 206, 205, 358, 359, 360, 361, 282, 196, 362, 363, 364, 365, 367, 368, 369, 370, 371, 372, 373, 374, 375, 376, 302, 303, 304, 305, 1121, 1122, 1123, 1124, 1125, 1126, 1127, 1128, 1129, 1130, 1131, 1132, 1133, 1134, 1135, 1136, 1137, 1138, 1139] (by decide +kernel) (by decide +kernel)
set_option maxRecDepth 20000 in
theorem gL_law_X9_anagramAt : GoodIn wsL_law (wsV RL 155 RX9 yX9_anagramAt wsX9_anagramAt) := goodIn_app (goodIn_of _ (by decide +kernel)) ggL_law_X9_anagramAt
set_option maxRecDepth 20000 in
theorem ggL_law_X8_largestAnagramGroup : GoodIn wsL_law wsX8_largestAnagramGroup := goodIn_r _ [466, 17, 467, 96, 97, 98, 261, 262, 263, 16, 264, 40, 277, 253, 254, 39, 255, 256, 353, 258, 259, 260, 47, 395, 396, 397, 398, 399, 236, 232, 237, 400, 401, 402, 403, 43, 41, 404, 405, 406, 32, 407, 52, 408, 409, 410, 411, 412, 413, 239, 240, 414, 415, 416, 417, 252, 257, 418, 419, 420, 421, 422, 423, 424, 425, 426, 427, 428, 429, 430, 431, 274, 275, 276, 1116, 1117, 1118, 1119, 1120, 1140, 1141, 1142, 1156, 1157, 1155] (by decide +kernel) (by decide +kernel)
set_option maxRecDepth 20000 in
theorem gL_law_X8_largestAnagramGroup : GoodIn wsL_law (wsV RL 156 RX8 yX8_largestAnagramGroup wsX8_largestAnagramGroup) := goodIn_app (goodIn_of _ (by decide +kernel)) ggL_law_X8_largestAnagramGroup
set_option maxRecDepth 20000 in
theorem ggL_law_X9_largestAnagramGroup : GoodIn wsL_law wsX9_largestAnagramGroup := goodIn_r _ [471, 297, 282, 196, 472, 96, 97, 98, 440, 441, 442, 5, 443, 366, 206, 205, 287, 288, 289, 444, 445, 446, 447, 362, 363, 364, 365, 367, 368, 369, 370, 286, 371, 372, 373, 1121, 1122, 1123, 1124, 1125, 1126, 1127, 1128, 1129, 1130, 1131, 1132, 1133, 1134, 1135, 1136, 1137, 1138, 1139] (by decide +kernel) (by decide +kernel)
set_option maxRecDepth 20000 in
theorem gL_law_X9_largestAnagramGroup : GoodIn wsL_law (wsV RL 159 RX9 yX9_largestAnagramGroup wsX9_largestAnagramGroup) := goodIn_app (goodIn_of _ (by decide +kernel)) ggL_law_X9_largestAnagramGroup
set_option maxRecDepth 20000 in
theorem ggL_law_L_fittingCount : GoodIn wsL_law wsL_fittingCount := goodIn_ca (goodIn_r _ [475, 217, 476, 477, 478, 2, 479, 17, 225, 226, 227, 228, 229, 230, 231, 232, 233, 234, 235, 236, 237, 238, 239, 240, 480, 481, 482, 16, 483, 400, 401, 402, 403, 43, 41, 40, 404, 405, 406, 32, 407, 52, 408, 409, 410, 411, 412, 413, 414, 415, 416, 39, 417, 256, 252, 253, 254, 255, 257, 258, 259, 260, 47, 399, 418, 419, 420, 421, 422, 423, 424, 425, 426, 427, 428, 429, 430, 431, 274, 275, 276, 277, 1116, 1117, 1118, 1119, 1120, 1140, 1141, 1142, 1155, 1156, 1157] (by decide +kernel) (by decide +kernel)) (goodIn_sub (fun _ h => List.mem_append_left _ (List.mem_append_left _ (List.mem_append_right _ h))) (by decide +kernel))
set_option maxRecDepth 20000 in
theorem gL_law_L_fittingCount : GoodIn wsL_law (va_wsS RL 160 yL_fittingCount wsL_fittingCount) := goodIn_app (goodIn_of _ (by decide +kernel)) ggL_law_L_fittingCount
set_option maxRecDepth 20000 in
theorem ggL_law_X9_fittingCount : GoodIn wsL_law wsX9_fittingCount := goodIn_r _ [487, 436, 437, 438, 5, 439, 283, 284, 285, 286, 287, 288, 289, 290, 291, 292, 293, 294, 295, 296, 297, 440, 441, 442, 443, 366, 206, 205, 444, 445, 446, 447, 282, 196, 362, 363, 364, 365, 367, 368, 369, 370, 371, 372, 373, 1121, 1122, 1123, 1124, 1125, 1126, 1127, 1128, 1129, 1130, 1131, 1132, 1133, 1134, 1135, 1136, 1137, 1138, 1139] (by decide +kernel) (by decide +kernel)
set_option maxRecDepth 20000 in
theorem gL_law_X9_fittingCount : GoodIn wsL_law (wsV RL 162 RX9 yX9_fittingCount wsX9_fittingCount) := goodIn_app (goodIn_of _ (by decide +kernel)) ggL_law_X9_fittingCount
set_option maxRecDepth 20000 in
theorem ggL_law_L_fittingWord : GoodIn wsL_law wsL_fittingWord := goodIn_ca (goodIn_ca (goodIn_r _ [490, 217, 343, 491, 492, 493, 2, 494, 17, 225, 226, 227, 228, 229, 230, 231, 232, 233, 234, 235, 236, 237, 238, 239, 240, 480, 481, 482, 16, 483, 400, 401, 402, 403, 43, 41, 40, 404, 405, 406, 32, 407, 52, 408, 409, 410, 411, 412, 413, 414, 415, 416, 39, 417, 256, 252, 253, 254, 255, 257, 258, 259, 260, 47, 399, 418, 419, 420, 421, 422, 423, 424, 425, 426, 427, 428, 429, 430, 431, 274, 275, 276, 348, 349, 350, 351, 352, 277, 353, 1116, 1117, 1118, 1119, 1120, 1140, 1141, 1142, 1155, 1156, 1157] (by decide +kernel) (by decide +kernel)) (goodIn_sub (fun _ h => List.mem_append_left _ (List.mem_append_left _ (List.mem_append_right _ h))) (by decide +kernel))) (goodIn_sub (fun _ h => List.mem_append_right _ h) (by decide +kernel))
set_option maxRecDepth 20000 in
theorem gL_law_L_fittingWord : GoodIn wsL_law (va_wsS RL 163 yL_fittingWord wsL_fittingWord) := goodIn_app (goodIn_of _ (by decide +kernel)) ggL_law_L_fittingWord
set_option maxRecDepth 20000 in
theorem ggL_law_X9_fittingWord : GoodIn wsL_law wsX9_fittingWord := goodIn_r _ [498, 459, 460, 461, 5, 462, 283, 284, 285, 286, 287, 288, 289, 290, 291, 292, 293, 294, 295, 296, 297, 440, 441, 442, 443, 366, 206, 205, 358, 359, 360, 361, 282, 196, 362, 363, 364, 365, 367, 368, 369, 370, 371, 372, 373, 374, 375, 376, 302, 303, 304, 305, 1121, 1122, 1123, 1124, 1125, 1126, 1127, 1128, 1129, 1130, 1131, 1132, 1133, 1134, 1135, 1136, 1137, 1138, 1139] (by decide +kernel) (by decide +kernel)
set_option maxRecDepth 20000 in
theorem gL_law_X9_fittingWord : GoodIn wsL_law (wsV RL 165 RX9 yX9_fittingWord wsX9_fittingWord) := goodIn_app (goodIn_of _ (by decide +kernel)) ggL_law_X9_fittingWord
set_option maxRecDepth 20000 in
theorem ggL_law_L_cut : GoodIn wsL_law wsL_cut := goodIn_ca (goodIn_ca (goodIn_r _ [501, 217, 218, 502, 503, 504, 2, 505, 33, 21, 506, 25, 507, 225, 226, 227, 228, 229, 230, 231, 232, 233, 234, 235, 236, 237, 238, 239, 240, 508, 509, 510, 511, 405, 406, 32, 407, 52, 512, 409, 410, 411, 412, 413, 513, 514, 515, 516, 223, 224, 517, 518, 519, 20, 520, 58, 521, 522, 523, 524, 525, 526, 527, 528, 529, 530, 531, 532, 1116, 1117, 1118, 1119, 1120, 1143, 1144, 1145, 1146, 1147, 1148, 1149, 1155] (by decide +kernel) (by decide +kernel)) (goodIn_sub (fun _ h => List.mem_append_left _ (List.mem_append_left _ (List.mem_append_right _ h))) (by decide +kernel))) (goodIn_sub (fun _ h => List.mem_append_left _ (List.mem_append_left _ (List.mem_append_left _ (List.mem_append_right _ h)))) (by decide +kernel))
set_option maxRecDepth 20000 in
theorem gL_law_L_cut : GoodIn wsL_law (va_wsS RL 166 yL_cut wsL_cut) := goodIn_app (goodIn_of _ (by decide +kernel)) ggL_law_L_cut
set_option maxRecDepth 20000 in
theorem ggL_law_X9_cut : GoodIn wsL_law wsX9_cut := goodIn_r _ [536, 197, 206, 199, 283, 284, 5, 285, 286, 287, 288, 289, 290, 291, 292, 293, 294, 295, 296, 297, 440, 441, 442, 443, 366, 205, 302, 303, 304, 305, 537, 538, 539, 540, 1121, 1122, 1123, 1124, 1125, 1126, 1127, 1128, 1129, 1130, 1131, 1132, 1133, 1134, 1135, 1136, 1137, 1138, 1139] (by decide +kernel) (by decide +kernel)
set_option maxRecDepth 20000 in
theorem gL_law_X9_cut : GoodIn wsL_law (wsV RL 168 RX9 yX9_cut wsX9_cut) := goodIn_app (goodIn_of _ (by decide +kernel)) ggL_law_X9_cut
set_option maxRecDepth 20000 in
theorem ggL_law_L_stockOf : GoodIn wsL_law wsL_stockOf := goodIn_ca (goodIn_r _ [543, 217, 544, 545, 546, 2, 547, 21, 506, 548, 549, 550, 508, 509, 510, 228, 229, 551, 522, 523, 32, 524, 52, 1116, 1117, 1118, 1119, 1120, 1143, 1144, 1145, 1155] (by decide +kernel) (by decide +kernel)) (goodIn_sub (fun _ h => List.mem_append_left _ (List.mem_append_left _ (List.mem_append_right _ h))) (by decide +kernel))
set_option maxRecDepth 20000 in
theorem gL_law_L_stockOf : GoodIn wsL_law (va_wsS RL 169 yL_stockOf wsL_stockOf) := goodIn_app (goodIn_of _ (by decide +kernel)) ggL_law_L_stockOf
set_option maxRecDepth 20000 in
theorem ggL_law_X9_stockOf : GoodIn wsL_law wsX9_stockOf := goodIn_r _ [555, 197, 556, 557, 558, 5, 559, 290, 291, 292, 293, 294, 295, 296, 297, 1121, 1122, 1123, 1124, 1125, 1126, 1127, 1128, 1129, 1130, 1131, 1132, 1133, 1134, 1135, 1136, 1137, 1138, 1139] (by decide +kernel) (by decide +kernel)
set_option maxRecDepth 20000 in
theorem gL_law_X9_stockOf : GoodIn wsL_law (wsV RL 171 RX9 yX9_stockOf wsX9_stockOf) := goodIn_app (goodIn_of _ (by decide +kernel)) ggL_law_X9_stockOf
set_option maxRecDepth 20000 in
theorem ggL_law_X8_totalStock : GoodIn wsL_law wsX8_totalStock := goodIn_r _ [563, 21, 506, 529, 530, 531, 32, 532, 52, 1116, 1117, 1118, 1119, 1120, 1143, 1144, 1145, 1155] (by decide +kernel) (by decide +kernel)
set_option maxRecDepth 20000 in
theorem gL_law_X8_totalStock : GoodIn wsL_law (wsV RL 172 RX8 yX8_totalStock wsX8_totalStock) := goodIn_app (goodIn_of _ (by decide +kernel)) ggL_law_X8_totalStock
set_option maxRecDepth 20000 in
theorem ggL_law_X9_totalStock : GoodIn wsL_law wsX9_totalStock := goodIn_r _ [567, 297, 537, 538, 539, 5, 540, 197, 1121, 1122, 1123, 1124, 1125, 1126, 1127, 1128, 1129, 1130, 1131, 1132, 1133, 1134, 1135, 1136, 1137, 1138, 1139] (by decide +kernel) (by decide +kernel)
set_option maxRecDepth 20000 in
theorem gL_law_X9_totalStock : GoodIn wsL_law (wsV RL 175 RX9 yX9_totalStock wsX9_totalStock) := goodIn_app (goodIn_of _ (by decide +kernel)) ggL_law_X9_totalStock
set_option maxRecDepth 20000 in
theorem ggL_law_L_setBasePrice : GoodIn wsL_law wsL_setBasePrice := goodIn_ca (goodIn_r _ [570, 217, 571, 572, 573, 2, 574, 21, 548, 549, 550, 508, 509, 510, 228, 229, 575, 576, 577, 20, 578, 59, 579, 580, 581, 582, 1116, 1117, 1118, 1119, 1120, 1143, 1144, 1145] (by decide +kernel) (by decide +kernel)) (goodIn_sub (fun _ h => List.mem_append_left _ (List.mem_append_left _ (List.mem_append_right _ h))) (by decide +kernel))
set_option maxRecDepth 20000 in
theorem gL_law_L_setBasePrice : GoodIn wsL_law (va_wsS RL 176 yL_setBasePrice wsL_setBasePrice) := goodIn_app (goodIn_of _ (by decide +kernel)) ggL_law_L_setBasePrice
set_option maxRecDepth 20000 in
theorem ggL_law_X9_setBasePrice : GoodIn wsL_law wsX9_setBasePrice := goodIn_r _ [586, 198, 290, 291, 5, 292, 293, 294, 295, 296, 297, 1121, 1122, 1123, 1124, 1125, 1126, 1127, 1128, 1129, 1130, 1131, 1132, 1133, 1134, 1135, 1136, 1137, 1138, 1139] (by decide +kernel) (by decide +kernel)
set_option maxRecDepth 20000 in
theorem gL_law_X9_setBasePrice : GoodIn wsL_law (wsV RL 179 RX9 yX9_setBasePrice wsX9_setBasePrice) := goodIn_app (goodIn_of _ (by decide +kernel)) ggL_law_X9_setBasePrice
set_option maxRecDepth 20000 in
theorem ggL_law_L_basePriceOf : GoodIn wsL_law wsL_basePriceOf := goodIn_ca (goodIn_r _ [589, 217, 590, 591, 592, 2, 593, 21, 548, 549, 550, 508, 509, 510, 228, 229, 594, 580, 581, 20, 582, 59, 1116, 1117, 1118, 1119, 1120, 1143, 1144, 1145] (by decide +kernel) (by decide +kernel)) (goodIn_sub (fun _ h => List.mem_append_left _ (List.mem_append_left _ (List.mem_append_right _ h))) (by decide +kernel))
set_option maxRecDepth 20000 in
theorem gL_law_L_basePriceOf : GoodIn wsL_law (va_wsS RL 180 yL_basePriceOf wsL_basePriceOf) := goodIn_app (goodIn_of _ (by decide +kernel)) ggL_law_L_basePriceOf
set_option maxRecDepth 20000 in
theorem ggL_law_X9_basePriceOf : GoodIn wsL_law wsX9_basePriceOf := goodIn_r _ [598, 198, 556, 557, 558, 5, 559, 290, 291, 292, 293, 294, 295, 296, 297, 1121, 1122, 1123, 1124, 1125, 1126, 1127, 1128, 1129, 1130, 1131, 1132, 1133, 1134, 1135, 1136, 1137, 1138, 1139] (by decide +kernel) (by decide +kernel)
set_option maxRecDepth 20000 in
theorem gL_law_X9_basePriceOf : GoodIn wsL_law (wsV RL 182 RX9 yX9_basePriceOf wsX9_basePriceOf) := goodIn_app (goodIn_of _ (by decide +kernel)) ggL_law_X9_basePriceOf
set_option maxRecDepth 20000 in
theorem ggL_law_L_presentPriceOf : GoodIn wsL_law wsL_presentPriceOf := goodIn_ca (goodIn_r _ [601, 217, 602, 603, 604, 2, 605, 21, 548, 549, 550, 508, 509, 510, 228, 229, 606, 607, 608, 20, 609, 58, 610, 96, 97, 98, 579, 580, 581, 582, 59, 521, 522, 523, 32, 524, 52, 1116, 1117, 1118, 1119, 1120, 1143, 1144, 1145, 1155] (by decide +kernel) (by decide +kernel)) (goodIn_sub (fun _ h => List.mem_append_left _ (List.mem_append_left _ (List.mem_append_right _ h))) (by decide +kernel))
set_option maxRecDepth 20000 in
theorem gL_law_L_presentPriceOf : GoodIn wsL_law (va_wsS RL 183 yL_presentPriceOf wsL_presentPriceOf) := goodIn_app (goodIn_of _ (by decide +kernel)) ggL_law_L_presentPriceOf
set_option maxRecDepth 20000 in
theorem ggL_law_X9_presentPriceOf : GoodIn wsL_law wsX9_presentPriceOf := goodIn_r _ [614, 197, 290, 291, 5, 292, 293, 294, 295, 296, 297, 615, 616, 617, 618, 472, 96, 97, 98, 198, 1121, 1122, 1123, 1124, 1125, 1126, 1127, 1128, 1129, 1130, 1131, 1132, 1133, 1134, 1135, 1136, 1137, 1138, 1139] (by decide +kernel) (by decide +kernel)
set_option maxRecDepth 20000 in
theorem gL_law_X9_presentPriceOf : GoodIn wsL_law (wsV RL 185 RX9 yX9_presentPriceOf wsX9_presentPriceOf) := goodIn_app (goodIn_of _ (by decide +kernel)) ggL_law_X9_presentPriceOf
set_option maxRecDepth 20000 in
theorem ggL_law_L_weightOf : GoodIn wsL_law wsL_weightOf := goodIn_ca (goodIn_r _ [621, 217, 622, 623, 624, 2, 625, 21, 225, 226, 227, 228, 229, 230, 231, 232, 233, 234, 235, 236, 237, 238, 239, 240, 626, 627, 628, 20, 629, 60, 630, 631, 1116, 1117, 1118, 1119, 1120, 1143, 1144, 1145] (by decide +kernel) (by decide +kernel)) (goodIn_sub (fun _ h => List.mem_append_left _ (List.mem_append_left _ (List.mem_append_right _ h))) (by decide +kernel))
set_option maxRecDepth 20000 in
theorem gL_law_L_weightOf : GoodIn wsL_law (va_wsS RL 186 yL_weightOf wsL_weightOf) := goodIn_app (goodIn_of _ (by decide +kernel)) ggL_law_L_weightOf
set_option maxRecDepth 20000 in
theorem ggL_law_X9_weightOf : GoodIn wsL_law wsX9_weightOf := goodIn_r _ [635, 286, 283, 284, 5, 285, 287, 288, 289, 290, 291, 292, 293, 294, 295, 296, 297, 636, 637, 638, 210, 211, 212, 1121, 1122, 1123, 1124, 1125, 1126, 1127, 1128, 1129, 1130, 1131, 1132, 1133, 1134, 1135, 1136, 1137, 1138, 1139] (by decide +kernel) (by decide +kernel)
set_option maxRecDepth 20000 in
theorem gL_law_X9_weightOf : GoodIn wsL_law (wsV RL 188 RX9 yX9_weightOf wsX9_weightOf) := goodIn_app (goodIn_of _ (by decide +kernel)) ggL_law_X9_weightOf
set_option maxRecDepth 20000 in
theorem ggL_law_L_costOf : GoodIn wsL_law wsL_costOf := goodIn_ca (goodIn_ca (goodIn_r _ [641, 217, 313, 642, 643, 644, 2, 645, 318, 319, 21, 506, 225, 226, 227, 228, 229, 230, 231, 232, 233, 234, 235, 236, 237, 238, 239, 240, 646, 419, 420, 32, 421, 422, 423, 424, 425, 52, 412, 413, 426, 409, 410, 411, 647, 648, 649, 20, 650, 60, 58, 630, 631, 651, 607, 608, 609, 610, 96, 97, 98, 579, 580, 581, 582, 59, 521, 522, 523, 524, 652, 653, 654, 655, 656, 1116, 1117, 1118, 1119, 1120, 1143, 1144, 1145, 1155] (by decide +kernel) (by decide +kernel)) (goodIn_sub (fun _ h => List.mem_append_left _ (List.mem_append_right _ h)) (by decide +kernel))) (goodIn_sub (fun _ h => List.mem_append_left _ (List.mem_append_left _ (List.mem_append_right _ h))) (by decide +kernel))
set_option maxRecDepth 20000 in
theorem gL_law_L_costOf : GoodIn wsL_law (va_wsS RL 189 yL_costOf wsL_costOf) := goodIn_app (goodIn_of _ (by decide +kernel)) ggL_law_L_costOf
set_option maxRecDepth 20000 in
theorem ggL_law_X9_costOf : GoodIn wsL_law wsX9_costOf := goodIn_r _ [660, 283, 284, 5, 285, 286, 287, 288, 289, 290, 291, 292, 293, 294, 295, 296, 297, 440, 441, 442, 443, 366, 206, 205, 661, 662, 663, 664, 197, 665, 666, 667, 668, 207, 615, 616, 617, 618, 472, 96, 97, 98, 198, 636, 637, 638, 210, 211, 212, 302, 303, 304, 305, 1121, 1122, 1123, 1124, 1125, 1126, 1127, 1128, 1129, 1130, 1131, 1132, 1133, 1134, 1135, 1136, 1137, 1138, 1139] (by decide +kernel) (by decide +kernel)
set_option maxRecDepth 20000 in
theorem gL_law_X9_costOf : GoodIn wsL_law (wsV RL 191 RX9 yX9_costOf wsX9_costOf) := goodIn_app (goodIn_of _ (by decide +kernel)) ggL_law_X9_costOf
set_option maxRecDepth 20000 in
theorem ggL_law_L_missingLetter : GoodIn wsL_law wsL_missingLetter := goodIn_ca (goodIn_r _ [671, 217, 672, 673, 674, 2, 675, 21, 506, 225, 226, 227, 228, 229, 230, 231, 232, 233, 234, 235, 236, 237, 238, 239, 240, 676, 677, 678, 32, 679, 52, 680, 681, 682, 1116, 1117, 1118, 1119, 1120, 1143, 1144, 1145, 1155] (by decide +kernel) (by decide +kernel)) (goodIn_sub (fun _ h => List.mem_append_left _ (List.mem_append_left _ (List.mem_append_right _ h))) (by decide +kernel))
set_option maxRecDepth 20000 in
theorem gL_law_L_missingLetter : GoodIn wsL_law (va_wsS RL 192 yL_missingLetter wsL_missingLetter) := goodIn_app (goodIn_of _ (by decide +kernel)) ggL_law_L_missingLetter
set_option maxRecDepth 20000 in
theorem ggL_law_X9_missingLetter : GoodIn wsL_law wsX9_missingLetter := goodIn_r _ [686, 283, 284, 5, 285, 286, 287, 288, 289, 290, 291, 292, 293, 294, 295, 296, 297, 440, 441, 442, 443, 366, 206, 205, 661, 662, 663, 664, 197, 1121, 1122, 1123, 1124, 1125, 1126, 1127, 1128, 1129, 1130, 1131, 1132, 1133, 1134, 1135, 1136, 1137, 1138, 1139] (by decide +kernel) (by decide +kernel)
set_option maxRecDepth 20000 in
theorem gL_law_X9_missingLetter : GoodIn wsL_law (wsV RL 194 RX9 yX9_missingLetter wsX9_missingLetter) := goodIn_app (goodIn_of _ (by decide +kernel)) ggL_law_X9_missingLetter
set_option maxRecDepth 20000 in
theorem ggL_law_L_refusalOf : GoodIn wsL_law wsL_refusalOf := goodIn_ca (goodIn_r _ [689, 217, 690, 691, 692, 2, 693, 225, 226, 227, 228, 229, 230, 231, 232, 233, 234, 235, 236, 237, 238, 239, 240, 694, 695, 696, 697, 508, 509, 510, 698, 699, 700, 701, 17, 21, 506, 241, 242, 243, 16, 244, 40, 245, 246, 247, 248, 249, 250, 251, 252, 253, 254, 39, 255, 256, 257, 258, 259, 260, 47, 646, 419, 420, 32, 421, 422, 423, 424, 425, 52, 412, 413, 426, 409, 410, 411, 647, 648, 649, 20, 650, 60, 58, 630, 631, 651, 607, 608, 609, 610, 96, 97, 98, 579, 580, 581, 582, 59, 521, 522, 523, 524, 652, 653, 654, 655, 656, 1116, 1117, 1118, 1119, 1120, 1143, 1144, 1145, 1140, 1141, 1142, 1156, 1157, 1155] (by decide +kernel) (by decide +kernel)) (goodIn_sub (fun _ h => List.mem_append_left _ (List.mem_append_left _ (List.mem_append_right _ h))) (by decide +kernel))
set_option maxRecDepth 20000 in
theorem gL_law_L_refusalOf : GoodIn wsL_law (va_wsS RL 195 yL_refusalOf wsL_refusalOf) := goodIn_app (goodIn_of _ (by decide +kernel)) ggL_law_L_refusalOf
set_option maxRecDepth 20000 in
theorem ggL_law_X9_refusalOf : GoodIn wsL_law wsX9_refusalOf := goodIn_r _ [705, 283, 284, 5, 285, 286, 287, 288, 289, 290, 291, 292, 706, 707, 708, 709, 710, 293, 294, 295, 296, 297, 711, 712, 713, 714, 440, 441, 442, 443, 366, 206, 205, 298, 299, 300, 301, 282, 196, 661, 662, 663, 664, 197, 665, 666, 667, 668, 207, 615, 616, 617, 618, 472, 96, 97, 98, 198, 636, 637, 638, 210, 211, 212, 1121, 1122, 1123, 1124, 1125, 1126, 1127, 1128, 1129, 1130, 1131, 1132, 1133, 1134, 1135, 1136, 1137, 1138, 1139] (by decide +kernel) (by decide +kernel)
set_option maxRecDepth 20000 in
theorem gL_law_X9_refusalOf : GoodIn wsL_law (wsV RL 197 RX9 yX9_refusalOf wsX9_refusalOf) := goodIn_app (goodIn_of _ (by decide +kernel)) ggL_law_X9_refusalOf
set_option maxRecDepth 20000 in
theorem ggL_law_L_sell : GoodIn wsL_law wsL_sell := goodIn_ca (goodIn_ca (goodIn_r _ [717, 217, 218, 718, 719, 720, 2, 721, 223, 224, 225, 226, 227, 228, 229, 230, 231, 232, 233, 234, 235, 236, 237, 238, 239, 240, 694, 695, 696, 697, 508, 509, 510, 698, 699, 700, 701, 17, 21, 506, 241, 242, 243, 16, 244, 40, 245, 246, 247, 248, 249, 250, 251, 252, 253, 254, 39, 255, 256, 257, 258, 259, 260, 47, 646, 419, 420, 32, 421, 422, 423, 424, 425, 52, 412, 413, 426, 409, 410, 411, 647, 648, 649, 20, 650, 60, 58, 630, 631, 651, 607, 608, 609, 610, 96, 97, 98, 579, 580, 581, 582, 59, 521, 522, 523, 524, 652, 653, 654, 655, 656, 722, 723, 724, 725, 25, 726, 727, 728, 24, 729, 165, 730, 731, 732, 164, 733, 734, 735, 736, 737, 738, 739, 740, 741, 742, 743, 744, 745, 746, 747, 168, 748, 749, 750, 751, 12, 13, 752, 753, 754, 755, 756, 757, 758, 759, 173, 760, 761, 762, 763, 764, 765, 766, 767, 768, 769, 770, 771, 172, 772, 773, 774, 775, 776, 777, 778, 779, 780, 781, 782, 783, 784, 785, 786, 787, 788, 789, 790, 791, 792, 793, 794, 795, 796, 100, 101, 797, 798, 799, 800, 801, 1116, 1117, 1118, 1119, 1120, 1143, 1144, 1145, 1140, 1141, 1142, 1156, 1157, 1155, 1146, 1147, 1148, 1149, 1158, 1159, 1160, 1161, 1162, 1163] (by decide +kernel) (by decide +kernel)) (goodIn_sub (fun _ h => List.mem_append_left _ (List.mem_append_left _ (List.mem_append_left _ (List.mem_append_right _ h)))) (by decide +kernel))) (goodIn_sub (fun _ h => List.mem_append_left _ (List.mem_append_left _ (List.mem_append_right _ h))) (by decide +kernel))
set_option maxRecDepth 20000 in
theorem gL_law_L_sell : GoodIn wsL_law (va_wsS RL 198 yL_sell wsL_sell) := goodIn_app (goodIn_of _ (by decide +kernel)) ggL_law_L_sell
set_option maxRecDepth 20000 in
theorem ggL_law_X9_sell : GoodIn wsL_law wsX9_sell := goodIn_r _ [805, 283, 284, 5, 285, 286, 287, 288, 289, 290, 291, 292, 706, 707, 708, 709, 710, 293, 294, 295, 296, 297, 711, 712, 713, 714, 440, 441, 442, 443, 366, 206, 205, 298, 299, 300, 301, 282, 196, 661, 662, 663, 664, 197, 665, 666, 667, 668, 207, 615, 616, 617, 618, 472, 96, 97, 98, 198, 636, 637, 638, 210, 211, 212, 806, 807, 808, 809, 200, 810, 811, 812, 813, 814, 201, 6, 51, 203, 202, 204, 815, 302, 303, 304, 305, 1121, 1122, 1123, 1124, 1125, 1126, 1127, 1128, 1129, 1130, 1131, 1132, 1133, 1134, 1135, 1136, 1137, 1138, 1139] (by decide +kernel) (by decide +kernel)
set_option maxRecDepth 20000 in
theorem gL_law_X9_sell : GoodIn wsL_law (wsV RL 200 RX9 yX9_sell wsX9_sell) := goodIn_app (goodIn_of _ (by decide +kernel)) ggL_law_X9_sell
set_option maxRecDepth 20000 in
theorem ggL_law_L_affordableWords : GoodIn wsL_law wsL_affordableWords := goodIn_ca (goodIn_r _ [818, 217, 819, 820, 821, 2, 822, 17, 21, 694, 695, 696, 697, 508, 509, 510, 228, 229, 261, 262, 263, 16, 264, 40, 277, 253, 254, 39, 255, 256, 353, 258, 259, 260, 47, 823, 824, 825, 20, 826, 58, 827, 419, 420, 32, 421, 422, 423, 424, 425, 52, 412, 236, 232, 237, 413, 239, 240, 426, 409, 410, 411, 828, 648, 649, 650, 60, 630, 631, 651, 607, 608, 609, 610, 96, 97, 98, 579, 580, 581, 582, 59, 521, 522, 523, 524, 652, 653, 654, 655, 656, 1116, 1117, 1118, 1119, 1120, 1140, 1141, 1142, 1156, 1157, 1143, 1144, 1145, 1155] (by decide +kernel) (by decide +kernel)) (goodIn_sub (fun _ h => List.mem_append_left _ (List.mem_append_left _ (List.mem_append_right _ h))) (by decide +kernel))
set_option maxRecDepth 20000 in
theorem gL_law_L_affordableWords : GoodIn wsL_law (va_wsS RL 201 yL_affordableWords wsL_affordableWords) := goodIn_app (goodIn_of _ (by decide +kernel)) ggL_law_L_affordableWords
set_option maxRecDepth 20000 in
theorem ggL_law_X9_affordableWords : GoodIn wsL_law wsX9_affordableWords := goodIn_r _ [832, 282, 196, 706, 707, 708, 5, 709, 710, 290, 291, 292, 293, 294, 295, 296, 297, 711, 712, 713, 714, 440, 441, 442, 443, 366, 206, 205, 287, 288, 289, 298, 299, 300, 301, 661, 662, 663, 664, 197, 665, 666, 667, 668, 207, 615, 616, 617, 618, 472, 96, 97, 98, 198, 636, 637, 638, 210, 211, 212, 1121, 1122, 1123, 1124, 1125, 1126, 1127, 1128, 1129, 1130, 1131, 1132, 1133, 1134, 1135, 1136, 1137, 1138, 1139] (by decide +kernel) (by decide +kernel)
set_option maxRecDepth 20000 in
theorem gL_law_X9_affordableWords : GoodIn wsL_law (wsV RL 203 RX9 yX9_affordableWords wsX9_affordableWords) := goodIn_app (goodIn_of _ (by decide +kernel)) ggL_law_X9_affordableWords
set_option maxRecDepth 20000 in
theorem ggL_law_L_bestWord : GoodIn wsL_law wsL_bestWord := goodIn_ca (goodIn_r _ [835, 217, 836, 837, 838, 2, 839, 694, 695, 696, 697, 508, 509, 510, 228, 229, 840, 841, 842, 843, 17, 21, 261, 262, 263, 16, 264, 40, 277, 253, 254, 39, 255, 256, 353, 258, 259, 260, 47, 844, 236, 232, 237, 823, 824, 825, 20, 826, 58, 827, 419, 420, 32, 421, 422, 423, 424, 425, 52, 412, 413, 239, 240, 426, 409, 410, 411, 828, 648, 649, 650, 60, 630, 631, 651, 607, 608, 609, 610, 96, 97, 98, 579, 580, 581, 582, 59, 521, 522, 523, 524, 652, 653, 654, 655, 656, 647, 1116, 1117, 1118, 1119, 1120, 1140, 1141, 1142, 1156, 1157, 1143, 1144, 1145, 1155] (by decide +kernel) (by decide +kernel)) (goodIn_sub (fun _ h => List.mem_append_left _ (List.mem_append_left _ (List.mem_append_right _ h))) (by decide +kernel))
set_option maxRecDepth 20000 in
theorem gL_law_L_bestWord : GoodIn wsL_law (va_wsS RL 204 yL_bestWord wsL_bestWord) := goodIn_app (goodIn_of _ (by decide +kernel)) ggL_law_L_bestWord
set_option maxRecDepth 20000 in
theorem ggL_law_X9_bestWord : GoodIn wsL_law wsX9_bestWord := goodIn_r _ [848, 706, 707, 708, 5, 709, 710, 290, 291, 292, 293, 294, 295, 296, 297, 849, 850, 851, 852, 282, 196, 711, 712, 713, 714, 440, 441, 442, 443, 366, 206, 205, 287, 288, 289, 298, 299, 300, 301, 661, 662, 663, 664, 197, 665, 666, 667, 668, 207, 615, 616, 617, 618, 472, 96, 97, 98, 198, 636, 637, 638, 210, 211, 212, 853, 854, 855, 856, 857, 858, 859, 860, 374, 375, 376, 1121, 1122, 1123, 1124, 1125, 1126, 1127, 1128, 1129, 1130, 1131, 1132, 1133, 1134, 1135, 1136, 1137, 1138, 1139] (by decide +kernel) (by decide +kernel)
set_option maxRecDepth 20000 in
theorem gL_law_X9_bestWord : GoodIn wsL_law (wsV RL 206 RX9 yX9_bestWord wsX9_bestWord) := goodIn_app (goodIn_of _ (by decide +kernel)) ggL_law_X9_bestWord
set_option maxRecDepth 20000 in
theorem ggL_law_L_spend : GoodIn wsL_law wsL_spend := goodIn_ca (goodIn_r _ [863, 217, 864, 865, 866, 2, 867, 25, 694, 695, 696, 697, 508, 509, 510, 228, 229, 726, 727, 728, 24, 729, 165, 730, 731, 732, 164, 733, 734, 840, 841, 842, 843, 17, 21, 261, 262, 263, 16, 264, 40, 277, 253, 254, 39, 255, 256, 353, 258, 259, 260, 47, 844, 236, 232, 237, 823, 824, 825, 20, 826, 58, 827, 419, 420, 32, 421, 422, 423, 424, 425, 52, 412, 413, 239, 240, 426, 409, 410, 411, 828, 648, 649, 650, 60, 630, 631, 651, 607, 608, 609, 610, 96, 97, 98, 579, 580, 581, 582, 59, 521, 522, 523, 524, 652, 653, 654, 655, 656, 647, 735, 736, 737, 738, 506, 739, 740, 741, 742, 743, 744, 745, 746, 747, 168, 748, 749, 750, 751, 12, 13, 752, 753, 754, 755, 756, 757, 758, 759, 173, 760, 761, 762, 763, 764, 765, 766, 767, 768, 769, 770, 771, 172, 772, 773, 774, 775, 776, 777, 778, 779, 780, 781, 782, 783, 784, 785, 786, 787, 788, 789, 790, 791, 792, 793, 794, 795, 796, 100, 101, 797, 798, 799, 800, 801, 1116, 1117, 1118, 1119, 1120, 1146, 1147, 1148, 1149, 1158, 1159, 1160, 1140, 1141, 1142, 1156, 1157, 1143, 1144, 1145, 1155, 1161, 1162, 1163] (by decide +kernel) (by decide +kernel)) (goodIn_sub (fun _ h => List.mem_append_left _ (List.mem_append_left _ (List.mem_append_right _ h))) (by decide +kernel))
set_option maxRecDepth 20000 in
theorem gL_law_L_spend : GoodIn wsL_law (va_wsS RL 207 yL_spend wsL_spend) := goodIn_app (goodIn_of _ (by decide +kernel)) ggL_law_L_spend
set_option maxRecDepth 20000 in
theorem ggL_law_X9_spend : GoodIn wsL_law wsX9_spend := goodIn_r _ [871, 706, 707, 708, 5, 709, 710, 290, 291, 292, 293, 294, 295, 296, 297, 849, 850, 851, 852, 282, 196, 711, 712, 713, 714, 440, 441, 442, 443, 366, 206, 205, 287, 288, 289, 298, 299, 300, 301, 661, 662, 663, 664, 197, 665, 666, 667, 668, 207, 615, 616, 617, 618, 472, 96, 97, 98, 198, 636, 637, 638, 210, 211, 212, 853, 854, 855, 856, 857, 858, 859, 860, 374, 375, 376, 806, 807, 808, 809, 200, 810, 811, 812, 813, 814, 201, 6, 51, 203, 202, 204, 815, 1121, 1122, 1123, 1124, 1125, 1126, 1127, 1128, 1129, 1130, 1131, 1132, 1133, 1134, 1135, 1136, 1137, 1138, 1139] (by decide +kernel) (by decide +kernel)
set_option maxRecDepth 20000 in
theorem gL_law_X9_spend : GoodIn wsL_law (wsV RL 209 RX9 yX9_spend wsX9_spend) := goodIn_app (goodIn_of _ (by decide +kernel)) ggL_law_X9_spend
set_option maxRecDepth 20000 in
theorem ggL_law_L_planLength : GoodIn wsL_law wsL_planLength := goodIn_ca (goodIn_r _ [874, 217, 875, 876, 877, 2, 878, 29, 879, 880, 881, 882, 17, 225, 226, 227, 228, 229, 230, 231, 232, 233, 234, 235, 236, 237, 238, 239, 240, 508, 509, 510, 480, 481, 482, 16, 483, 400, 401, 402, 403, 43, 41, 40, 404, 405, 406, 32, 407, 52, 408, 409, 410, 411, 412, 413, 414, 415, 416, 39, 417, 256, 252, 253, 254, 255, 257, 258, 259, 260, 47, 399, 418, 419, 420, 421, 422, 423, 424, 425, 426, 427, 428, 429, 430, 431, 274, 275, 276, 883, 884, 885, 28, 886, 188, 191, 887, 888, 889, 890, 891, 892, 893, 894, 895, 96, 97, 98, 896, 897, 898, 899, 900, 901, 902, 903, 904, 905, 906, 190, 907, 908, 909, 910, 911, 912, 913, 325, 326, 327, 914, 915, 916, 917, 277, 1116, 1117, 1118, 1119, 1120, 1140, 1141, 1142, 1155, 1156, 1157, 1150, 1151, 1152, 1153, 1154] (by decide +kernel) (by decide +kernel)) (goodIn_sub (fun _ h => List.mem_append_left _ (List.mem_append_left _ (List.mem_append_right _ h))) (by decide +kernel))
set_option maxRecDepth 20000 in
theorem gL_law_L_planLength : GoodIn wsL_law (va_wsS RL 210 yL_planLength wsL_planLength) := goodIn_app (goodIn_of _ (by decide +kernel)) ggL_law_L_planLength
set_option maxRecDepth 20000 in
theorem ggL_law_X9_planLength : GoodIn wsL_law wsX9_planLength := goodIn_r _ [921, 922, 923, 924, 925, 5, 926, 283, 284, 285, 286, 287, 288, 289, 290, 291, 292, 293, 294, 295, 296, 297, 927, 928, 929, 930, 208, 366, 440, 441, 442, 443, 206, 205, 931, 932, 933, 934, 282, 196, 367, 368, 369, 370, 371, 372, 373, 374, 375, 376, 935, 936, 937, 938, 209, 939, 940, 941, 942, 943, 944, 945, 946, 207, 947, 948, 949, 950, 1121, 1122, 1123, 1124, 1125, 1126, 1127, 1128, 1129, 1130, 1131, 1132, 1133, 1134, 1135, 1136, 1137, 1138, 1139] (by decide +kernel) (by decide +kernel)
set_option maxRecDepth 20000 in
theorem gL_law_X9_planLength : GoodIn wsL_law (wsV RL 212 RX9 yX9_planLength wsX9_planLength) := goodIn_app (goodIn_of _ (by decide +kernel)) ggL_law_X9_planLength
set_option maxRecDepth 20000 in
theorem ggL_law_L_planWord : GoodIn wsL_law wsL_planWord := goodIn_ca (goodIn_ca (goodIn_r _ [953, 217, 343, 954, 955, 956, 2, 957, 29, 879, 880, 881, 882, 17, 225, 226, 227, 228, 229, 230, 231, 232, 233, 234, 235, 236, 237, 238, 239, 240, 508, 509, 510, 480, 481, 482, 16, 483, 400, 401, 402, 403, 43, 41, 40, 404, 405, 406, 32, 407, 52, 408, 409, 410, 411, 412, 413, 414, 415, 416, 39, 417, 256, 252, 253, 254, 255, 257, 258, 259, 260, 47, 399, 418, 419, 420, 421, 422, 423, 424, 425, 426, 427, 428, 429, 430, 431, 274, 275, 276, 883, 884, 885, 28, 886, 188, 191, 887, 888, 889, 890, 891, 892, 893, 894, 895, 96, 97, 98, 896, 897, 898, 899, 900, 901, 902, 903, 904, 905, 906, 190, 907, 908, 909, 910, 911, 912, 913, 325, 326, 327, 914, 915, 916, 917, 348, 349, 350, 351, 352, 277, 353, 1116, 1117, 1118, 1119, 1120, 1140, 1141, 1142, 1155, 1156, 1157, 1150, 1151, 1152, 1153, 1154] (by decide +kernel) (by decide +kernel)) (goodIn_sub (fun _ h => List.mem_append_left _ (List.mem_append_left _ (List.mem_append_right _ h))) (by decide +kernel))) (goodIn_sub (fun _ h => List.mem_append_right _ h) (by decide +kernel))
set_option maxRecDepth 20000 in
theorem gL_law_L_planWord : GoodIn wsL_law (va_wsS RL 213 yL_planWord wsL_planWord) := goodIn_app (goodIn_of _ (by decide +kernel)) ggL_law_L_planWord
set_option maxRecDepth 20000 in
theorem ggL_law_X9_planWord : GoodIn wsL_law wsX9_planWord := goodIn_r _ [961, 922, 196, 209, 923, 924, 925, 5, 926, 283, 284, 285, 286, 287, 288, 289, 290, 291, 292, 293, 294, 295, 296, 297, 927, 928, 929, 930, 208, 366, 440, 441, 442, 443, 206, 205, 931, 932, 933, 934, 282, 367, 368, 369, 370, 371, 372, 373, 374, 375, 376, 935, 936, 937, 938, 939, 940, 941, 942, 943, 944, 945, 946, 207, 947, 948, 949, 950, 302, 303, 304, 305, 1121, 1122, 1123, 1124, 1125, 1126, 1127, 1128, 1129, 1130, 1131, 1132, 1133, 1134, 1135, 1136, 1137, 1138, 1139] (by decide +kernel) (by decide +kernel)
set_option maxRecDepth 20000 in
theorem gL_law_X9_planWord : GoodIn wsL_law (wsV RL 216 RX9 yX9_planWord wsX9_planWord) := goodIn_app (goodIn_of _ (by decide +kernel)) ggL_law_X9_planWord
set_option maxRecDepth 20000 in
theorem ggL_law_L_leftoverCount : GoodIn wsL_law wsL_leftoverCount := goodIn_ca (goodIn_r _ [964, 217, 965, 966, 967, 2, 968, 29, 879, 880, 881, 882, 17, 225, 226, 227, 228, 229, 230, 231, 232, 233, 234, 235, 236, 237, 238, 239, 240, 508, 509, 510, 480, 481, 482, 16, 483, 400, 401, 402, 403, 43, 41, 40, 404, 405, 406, 32, 407, 52, 408, 409, 410, 411, 412, 413, 414, 415, 416, 39, 417, 256, 252, 253, 254, 255, 257, 258, 259, 260, 47, 399, 418, 419, 420, 421, 422, 423, 424, 425, 426, 427, 428, 429, 430, 431, 274, 275, 276, 883, 884, 885, 28, 886, 188, 191, 887, 888, 889, 890, 891, 892, 893, 894, 895, 96, 97, 98, 896, 897, 898, 899, 900, 901, 902, 903, 904, 905, 906, 190, 907, 908, 909, 910, 911, 912, 913, 325, 326, 327, 969, 970, 971, 972, 529, 530, 531, 532, 1116, 1117, 1118, 1119, 1120, 1140, 1141, 1142, 1155, 1156, 1157, 1150, 1151, 1152, 1153, 1154] (by decide +kernel) (by decide +kernel)) (goodIn_sub (fun _ h => List.mem_append_left _ (List.mem_append_left _ (List.mem_append_right _ h))) (by decide +kernel))
set_option maxRecDepth 20000 in
theorem gL_law_L_leftoverCount : GoodIn wsL_law (va_wsS RL 217 yL_leftoverCount wsL_leftoverCount) := goodIn_app (goodIn_of _ (by decide +kernel)) ggL_law_L_leftoverCount
set_option maxRecDepth 20000 in
theorem ggL_law_X9_leftoverCount : GoodIn wsL_law wsX9_leftoverCount := goodIn_r _ [976, 923, 924, 925, 5, 926, 283, 284, 285, 286, 287, 288, 289, 290, 291, 292, 293, 294, 295, 296, 297, 927, 928, 929, 930, 922, 208, 366, 440, 441, 442, 443, 206, 205, 931, 932, 933, 934, 282, 196, 367, 368, 369, 370, 371, 372, 373, 374, 375, 376, 935, 936, 937, 938, 209, 939, 940, 941, 942, 943, 944, 945, 946, 207, 947, 948, 949, 950, 1121, 1122, 1123, 1124, 1125, 1126, 1127, 1128, 1129, 1130, 1131, 1132, 1133, 1134, 1135, 1136, 1137, 1138, 1139] (by decide +kernel) (by decide +kernel)
set_option maxRecDepth 20000 in
theorem gL_law_X9_leftoverCount : GoodIn wsL_law (wsV RL 219 RX9 yX9_leftoverCount wsX9_leftoverCount) := goodIn_app (goodIn_of _ (by decide +kernel)) ggL_law_X9_leftoverCount
set_option maxRecDepth 20000 in
theorem ggL_law_L_cutToOrder : GoodIn wsL_law wsL_cutToOrder := goodIn_ca (goodIn_ca (goodIn_r _ [979, 217, 218, 980, 981, 982, 2, 983, 29, 25, 507, 21, 506, 879, 880, 881, 882, 17, 225, 226, 227, 228, 229, 230, 231, 232, 233, 234, 235, 236, 237, 238, 239, 240, 508, 509, 510, 480, 481, 482, 16, 483, 400, 401, 402, 403, 43, 41, 40, 404, 405, 406, 32, 407, 52, 408, 409, 410, 411, 412, 413, 414, 415, 416, 39, 417, 256, 252, 253, 254, 255, 257, 258, 259, 260, 47, 399, 418, 419, 420, 421, 422, 423, 424, 425, 426, 427, 428, 429, 430, 431, 274, 275, 276, 883, 884, 885, 28, 886, 188, 191, 887, 888, 889, 890, 891, 892, 893, 894, 895, 96, 97, 98, 896, 897, 898, 899, 900, 901, 902, 903, 904, 905, 906, 190, 907, 908, 909, 910, 911, 912, 913, 325, 326, 327, 969, 970, 971, 972, 513, 514, 515, 516, 223, 224, 517, 518, 519, 20, 520, 58, 521, 522, 523, 524, 914, 915, 916, 917, 277, 722, 723, 724, 725, 726, 727, 728, 24, 729, 165, 730, 731, 732, 164, 733, 734, 353, 844, 740, 741, 742, 743, 744, 745, 746, 747, 168, 748, 749, 750, 751, 12, 13, 752, 753, 754, 755, 756, 757, 758, 759, 173, 760, 761, 762, 763, 764, 765, 766, 767, 768, 769, 770, 771, 172, 772, 773, 774, 775, 776, 777, 778, 779, 780, 781, 782, 783, 784, 785, 786, 787, 788, 789, 790, 791, 792, 793, 794, 795, 796, 100, 101, 797, 798, 799, 800, 801, 512, 525, 526, 527, 528, 529, 530, 531, 532, 1116, 1117, 1118, 1119, 1120, 1146, 1147, 1148, 1149, 1143, 1144, 1145, 1140, 1141, 1142, 1155, 1156, 1157, 1150, 1151, 1152, 1153, 1154, 1158, 1159, 1160, 1161, 1162, 1163] (by decide +kernel) (by decide +kernel)) (goodIn_sub (fun _ h => List.mem_append_left _ (List.mem_append_left _ (List.mem_append_right _ h))) (by decide +kernel))) (goodIn_sub (fun _ h => List.mem_append_left _ (List.mem_append_left _ (List.mem_append_left _ (List.mem_append_right _ h)))) (by decide +kernel))
set_option maxRecDepth 20000 in
theorem gL_law_L_cutToOrder : GoodIn wsL_law (va_wsS RL 220 yL_cutToOrder wsL_cutToOrder) := goodIn_app (goodIn_of _ (by decide +kernel)) ggL_law_L_cutToOrder
set_option maxRecDepth 20000 in
theorem ggL_law_X9_cutToOrder : GoodIn wsL_law wsX9_cutToOrder := goodIn_r _ [987, 197, 200, 206, 199, 922, 196, 209, 923, 924, 925, 5, 926, 283, 284, 285, 286, 287, 288, 289, 290, 291, 292, 293, 294, 295, 296, 297, 927, 928, 929, 930, 208, 366, 440, 441, 442, 443, 205, 931, 932, 933, 934, 282, 367, 368, 369, 370, 371, 372, 373, 374, 375, 376, 935, 936, 937, 938, 939, 940, 941, 942, 943, 944, 945, 946, 207, 947, 948, 949, 950, 988, 989, 990, 991, 302, 303, 304, 305, 810, 811, 812, 813, 814, 201, 6, 51, 203, 202, 204, 815, 1121, 1122, 1123, 1124, 1125, 1126, 1127, 1128, 1129, 1130, 1131, 1132, 1133, 1134, 1135, 1136, 1137, 1138, 1139] (by decide +kernel) (by decide +kernel)
set_option maxRecDepth 20000 in
theorem gL_law_X9_cutToOrder : GoodIn wsL_law (wsV RL 222 RX9 yX9_cutToOrder wsX9_cutToOrder) := goodIn_app (goodIn_of _ (by decide +kernel)) ggL_law_X9_cutToOrder
set_option maxRecDepth 20000 in
theorem ggL_law_X8_receiptCount : GoodIn wsL_law wsX8_receiptCount := goodIn_r _ [995, 25, 996, 997, 731, 732, 164, 733, 734, 1116, 1117, 1118, 1119, 1120, 1146, 1147, 1148, 1149, 1158, 1159, 1160] (by decide +kernel) (by decide +kernel)
set_option maxRecDepth 20000 in
theorem gL_law_X8_receiptCount : GoodIn wsL_law (wsV RL 223 RX8 yX8_receiptCount wsX8_receiptCount) := goodIn_app (goodIn_of _ (by decide +kernel)) ggL_law_X8_receiptCount
set_option maxRecDepth 20000 in
theorem ggL_law_X9_receiptCount : GoodIn wsL_law wsX9_receiptCount := goodIn_r _ [1001, 297, 814, 1121, 1122, 1123, 1124, 1125, 1126, 1127, 1128, 1129, 1130, 1131, 1132, 1133, 1134, 1135, 1136, 1137, 1138, 1139] (by decide +kernel) (by decide +kernel)
set_option maxRecDepth 20000 in
theorem gL_law_X9_receiptCount : GoodIn wsL_law (wsV RL 226 RX9 yX9_receiptCount wsX9_receiptCount) := goodIn_app (goodIn_of _ (by decide +kernel)) ggL_law_X9_receiptCount
set_option maxRecDepth 20000 in
theorem ggL_law_L_receiptWord : GoodIn wsL_law wsL_receiptWord := goodIn_ca (goodIn_r _ [1004, 343, 1005, 1006, 1007, 2, 1008, 1009, 1010, 1011, 1012, 1013, 351, 352, 25, 996, 1014, 997, 731, 732, 164, 733, 734, 1015, 1016, 1017, 1018, 1019, 1020, 1021, 1022, 1023, 1024, 130, 1025, 1026, 1027, 1028, 1029, 173, 1161, 1162, 1163, 1116, 1117, 1118, 1119, 1120, 1146, 1147, 1148, 1149, 1158, 1159, 1160] (by decide +kernel) (by decide +kernel)) (goodIn_sub (fun _ h => List.mem_append_right _ h) (by decide +kernel))
set_option maxRecDepth 20000 in
theorem gL_law_L_receiptWord : GoodIn wsL_law (va_wsS RL 227 yL_receiptWord wsL_receiptWord) := goodIn_app (goodIn_of _ (by decide +kernel)) ggL_law_L_receiptWord
set_option maxRecDepth 20000 in
theorem ggL_law_X9_receiptWord : GoodIn wsL_law wsX9_receiptWord := goodIn_r _ [1033, 201, 1034, 1035, 1036, 5, 1037, 814, 290, 291, 292, 293, 294, 295, 296, 297, 1121, 1122, 1123, 1124, 1125, 1126, 1127, 1128, 1129, 1130, 1131, 1132, 1133, 1134, 1135, 1136, 1137, 1138, 1139] (by decide +kernel) (by decide +kernel)
set_option maxRecDepth 20000 in
theorem gL_law_X9_receiptWord : GoodIn wsL_law (wsV RL 229 RX9 yX9_receiptWord wsX9_receiptWord) := goodIn_app (goodIn_of _ (by decide +kernel)) ggL_law_X9_receiptWord
set_option maxRecDepth 20000 in
theorem ggL_law_L_receiptPrice : GoodIn wsL_law wsL_receiptPrice := goodIn_ca (goodIn_r _ [1040, 343, 1041, 1042, 1043, 2, 1044, 1045, 1010, 1011, 1012, 1013, 351, 352, 25, 996, 1014, 997, 731, 732, 164, 733, 734, 1015, 1016, 1017, 1018, 1019, 1020, 1021, 1022, 1023, 1024, 130, 1025, 1026, 1027, 1028, 1029, 173, 1161, 1162, 1163, 1116, 1117, 1118, 1119, 1120, 1146, 1147, 1148, 1149, 1158, 1159, 1160] (by decide +kernel) (by decide +kernel)) (goodIn_sub (fun _ h => List.mem_append_right _ h) (by decide +kernel))
set_option maxRecDepth 20000 in
theorem gL_law_L_receiptPrice : GoodIn wsL_law (va_wsS RL 230 yL_receiptPrice wsL_receiptPrice) := goodIn_app (goodIn_of _ (by decide +kernel)) ggL_law_L_receiptPrice
set_option maxRecDepth 20000 in
theorem ggL_law_X9_receiptPrice : GoodIn wsL_law wsX9_receiptPrice := goodIn_r _ [1049, 202, 1034, 1035, 1036, 5, 1037, 814, 290, 291, 292, 293, 294, 295, 296, 297, 1121, 1122, 1123, 1124, 1125, 1126, 1127, 1128, 1129, 1130, 1131, 1132, 1133, 1134, 1135, 1136, 1137, 1138, 1139] (by decide +kernel) (by decide +kernel)
set_option maxRecDepth 20000 in
theorem gL_law_X9_receiptPrice : GoodIn wsL_law (wsV RL 232 RX9 yX9_receiptPrice wsX9_receiptPrice) := goodIn_app (goodIn_of _ (by decide +kernel)) ggL_law_X9_receiptPrice
set_option maxRecDepth 20000 in
theorem ggL_law_L_isReturned : GoodIn wsL_law wsL_isReturned := goodIn_ca (goodIn_r _ [1052, 343, 1053, 1054, 1055, 2, 1056, 1057, 1010, 1011, 1012, 1013, 351, 352, 25, 996, 1014, 997, 731, 732, 164, 733, 734, 1015, 1016, 1017, 1018, 1019, 1020, 1021, 1022, 1023, 1024, 130, 1025, 1026, 1027, 1028, 1029, 173, 1161, 1162, 1163, 1116, 1117, 1118, 1119, 1120, 1146, 1147, 1148, 1149, 1158, 1159, 1160] (by decide +kernel) (by decide +kernel)) (goodIn_sub (fun _ h => List.mem_append_right _ h) (by decide +kernel))
set_option maxRecDepth 20000 in
theorem gL_law_L_isReturned : GoodIn wsL_law (va_wsS RL 233 yL_isReturned wsL_isReturned) := goodIn_app (goodIn_of _ (by decide +kernel)) ggL_law_L_isReturned
set_option maxRecDepth 20000 in
theorem ggL_law_X9_isReturned : GoodIn wsL_law wsX9_isReturned := goodIn_r _ [1061, 204, 1034, 1035, 1036, 5, 1037, 814, 290, 291, 292, 293, 294, 295, 296, 297, 1121, 1122, 1123, 1124, 1125, 1126, 1127, 1128, 1129, 1130, 1131, 1132, 1133, 1134, 1135, 1136, 1137, 1138, 1139] (by decide +kernel) (by decide +kernel)
set_option maxRecDepth 20000 in
theorem gL_law_X9_isReturned : GoodIn wsL_law (wsV RL 235 RX9 yX9_isReturned wsX9_isReturned) := goodIn_app (goodIn_of _ (by decide +kernel)) ggL_law_X9_isReturned
set_option maxRecDepth 20000 in
theorem ggL_law_L_takeBack : GoodIn wsL_law wsL_takeBack := goodIn_ca (goodIn_ca (goodIn_r _ [1064, 343, 218, 1065, 1066, 1067, 2, 1068, 223, 224, 1057, 33, 1009, 21, 506, 25, 1010, 1011, 1012, 1013, 351, 352, 996, 1014, 997, 731, 732, 164, 733, 734, 1015, 1016, 1017, 1018, 1019, 1020, 1021, 1022, 1023, 1024, 130, 1025, 1026, 1027, 1028, 1029, 173, 511, 405, 406, 32, 407, 52, 512, 409, 410, 411, 412, 236, 232, 237, 413, 239, 240, 513, 514, 515, 516, 517, 518, 519, 20, 520, 58, 521, 522, 523, 524, 525, 526, 527, 528, 1069, 1070, 1071, 24, 1072, 1073, 747, 168, 1074, 1075, 1076, 1077, 746, 1078, 753, 801, 1079, 1161, 1162, 1163, 1116, 1117, 1118, 1119, 1120, 1143, 1144, 1145, 1146, 1147, 1148, 1149, 1158, 1159, 1160, 1155] (by decide +kernel) (by decide +kernel)) (goodIn_sub (fun _ h => List.mem_append_left _ (List.mem_append_left _ (List.mem_append_left _ (List.mem_append_right _ h)))) (by decide +kernel))) (goodIn_sub (fun _ h => List.mem_append_right _ h) (by decide +kernel))
set_option maxRecDepth 20000 in
theorem gL_law_L_takeBack : GoodIn wsL_law (va_wsS RL 236 yL_takeBack wsL_takeBack) := goodIn_app (goodIn_of _ (by decide +kernel)) ggL_law_L_takeBack
set_option maxRecDepth 20000 in
theorem ggL_law_X9_takeBack : GoodIn wsL_law wsX9_takeBack := goodIn_r _ [1083, 201, 197, 206, 204, 366, 205, 200, 202, 815, 1034, 1035, 1036, 5, 1037, 814, 290, 291, 292, 293, 294, 295, 296, 297, 440, 441, 442, 443, 287, 288, 289, 302, 303, 304, 305, 1121, 1122, 1123, 1124, 1125, 1126, 1127, 1128, 1129, 1130, 1131, 1132, 1133, 1134, 1135, 1136, 1137, 1138, 1139] (by decide +kernel) (by decide +kernel)
set_option maxRecDepth 20000 in
theorem gL_law_X9_takeBack : GoodIn wsL_law (wsV RL 238 RX9 yX9_takeBack wsX9_takeBack) := goodIn_app (goodIn_of _ (by decide +kernel)) ggL_law_X9_takeBack
set_option maxRecDepth 20000 in
theorem ggL_law_X8_takings : GoodIn wsL_law wsX8_takings := goodIn_r _ [1087, 25, 1088, 1116, 1117, 1118, 1119, 1120, 1146, 1147, 1148, 1149] (by decide +kernel) (by decide +kernel)
set_option maxRecDepth 20000 in
theorem gL_law_X8_takings : GoodIn wsL_law (wsV RL 239 RX8 yX8_takings wsX8_takings) := goodIn_app (goodIn_of _ (by decide +kernel)) ggL_law_X8_takings
set_option maxRecDepth 20000 in
theorem ggL_law_X9_takings : GoodIn wsL_law wsX9_takings := goodIn_r _ [1092, 297, 815, 1121, 1122, 1123, 1124, 1125, 1126, 1127, 1128, 1129, 1130, 1131, 1132, 1133, 1134, 1135, 1136, 1137, 1138, 1139] (by decide +kernel) (by decide +kernel)
set_option maxRecDepth 20000 in
theorem gL_law_X9_takings : GoodIn wsL_law (wsV RL 242 RX9 yX9_takings wsX9_takings) := goodIn_app (goodIn_of _ (by decide +kernel)) ggL_law_X9_takings
set_option maxRecDepth 20000 in
theorem ggL_law_L_cameIn : GoodIn wsL_law wsL_cameIn := goodIn_ca (goodIn_r _ [1095, 217, 1096, 1097, 1098, 2, 1099, 25, 507, 548, 549, 550, 508, 509, 510, 228, 229, 551, 522, 523, 32, 524, 52, 1116, 1117, 1118, 1119, 1120, 1146, 1147, 1148, 1149, 1155] (by decide +kernel) (by decide +kernel)) (goodIn_sub (fun _ h => List.mem_append_left _ (List.mem_append_left _ (List.mem_append_right _ h))) (by decide +kernel))
set_option maxRecDepth 20000 in
theorem gL_law_L_cameIn : GoodIn wsL_law (va_wsS RL 243 yL_cameIn wsL_cameIn) := goodIn_app (goodIn_of _ (by decide +kernel)) ggL_law_L_cameIn
set_option maxRecDepth 20000 in
theorem ggL_law_X9_cameIn : GoodIn wsL_law wsX9_cameIn := goodIn_r _ [1103, 199, 556, 557, 558, 5, 559, 290, 291, 292, 293, 294, 295, 296, 297, 1121, 1122, 1123, 1124, 1125, 1126, 1127, 1128, 1129, 1130, 1131, 1132, 1133, 1134, 1135, 1136, 1137, 1138, 1139] (by decide +kernel) (by decide +kernel)
set_option maxRecDepth 20000 in
theorem gL_law_X9_cameIn : GoodIn wsL_law (wsV RL 245 RX9 yX9_cameIn wsX9_cameIn) := goodIn_app (goodIn_of _ (by decide +kernel)) ggL_law_X9_cameIn
set_option maxRecDepth 20000 in
theorem ggL_law_L_soldPieces : GoodIn wsL_law wsL_soldPieces := goodIn_ca (goodIn_r _ [1106, 217, 1107, 1108, 1109, 2, 1110, 25, 1111, 548, 549, 550, 508, 509, 510, 228, 229, 551, 522, 523, 32, 524, 52, 1116, 1117, 1118, 1119, 1120, 1146, 1147, 1148, 1149, 1155] (by decide +kernel) (by decide +kernel)) (goodIn_sub (fun _ h => List.mem_append_left _ (List.mem_append_left _ (List.mem_append_right _ h))) (by decide +kernel))
set_option maxRecDepth 20000 in
theorem gL_law_L_soldPieces : GoodIn wsL_law (va_wsS RL 246 yL_soldPieces wsL_soldPieces) := goodIn_app (goodIn_of _ (by decide +kernel)) ggL_law_L_soldPieces
set_option maxRecDepth 20000 in
theorem ggL_law_X9_soldPieces : GoodIn wsL_law wsX9_soldPieces := goodIn_r _ [1115, 200, 556, 557, 558, 5, 559, 290, 291, 292, 293, 294, 295, 296, 297, 1121, 1122, 1123, 1124, 1125, 1126, 1127, 1128, 1129, 1130, 1131, 1132, 1133, 1134, 1135, 1136, 1137, 1138, 1139] (by decide +kernel) (by decide +kernel)
set_option maxRecDepth 20000 in
theorem gL_law_X9_soldPieces : GoodIn wsL_law (wsV RL 248 RX9 yX9_soldPieces wsX9_soldPieces) := goodIn_app (goodIn_of _ (by decide +kernel)) ggL_law_X9_soldPieces


