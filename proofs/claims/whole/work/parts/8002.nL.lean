set_option maxRecDepth 20000 in
theorem ggL_law_X7_type : GoodIn wsL_law wsX7_type := goodIn_r _ [204, 23, 140, 141, 2, 142, 143, 144, 145, 146, 38, 39, 40, 205, 206, 207, 22, 208, 71, 209, 210, 211, 212, 70, 1064, 1065, 1066, 1067, 1068, 1069, 1070, 1071, 1072, 1073, 1074, 1075, 1076, 1107, 1108, 1109, 1110, 1111, 1112] (by decide +kernel) (by decide +kernel)
set_option maxRecDepth 20000 in
theorem gL_law_X7_type : GoodIn wsL_law (wsV RL 28 RX7 yX7_type wsX7_type) := goodIn_app (goodIn_of _ (by decide +kernel)) ggL_law_X7_type
set_option maxRecDepth 20000 in
theorem ggL_law_X8_type : GoodIn wsL_law wsX8_type := goodIn_r _ [216, 217, 218, 105, 159, 160, 5, 161, 162, 163, 164, 165, 98, 166, 167, 168, 169, 1077, 1078, 1079, 1080, 1081, 1082, 1083, 1084, 1085, 1086, 1087, 1088, 1089, 1090, 1091, 1092, 1093, 1094, 1095] (by decide +kernel) (by decide +kernel)
set_option maxRecDepth 20000 in
theorem gL_law_X8_type : GoodIn wsL_law (wsV RL 31 RX8 yX8_type wsX8_type) := goodIn_app (goodIn_of _ (by decide +kernel)) ggL_law_X8_type
set_option maxRecDepth 20000 in
theorem ggL_law_X7_clear : GoodIn wsL_law wsX7_clear := goodIn_r _ [222, 23, 223, 224, 225, 22, 226, 71, 1064, 1065, 1066, 1067, 1068, 1069, 1070, 1071, 1072, 1073, 1074, 1075, 1076, 1107, 1108, 1109, 1110, 1111, 1112] (by decide +kernel) (by decide +kernel)
set_option maxRecDepth 20000 in
theorem gL_law_X7_clear : GoodIn wsL_law (wsV RL 32 RX7 yX7_clear wsX7_clear) := goodIn_app (goodIn_of _ (by decide +kernel)) ggL_law_X7_clear
set_option maxRecDepth 20000 in
theorem ggL_law_X8_clear : GoodIn wsL_law wsX8_clear := goodIn_r _ [230, 218, 1077, 1078, 1079, 1080, 1081, 1082, 1083, 1084, 1085, 1086, 1087, 1088, 1089, 1090, 1091, 1092, 1093, 1094, 1095] (by decide +kernel) (by decide +kernel)
set_option maxRecDepth 20000 in
theorem gL_law_X8_clear : GoodIn wsL_law (wsV RL 35 RX8 yX8_clear wsX8_clear) := goodIn_app (goodIn_of _ (by decide +kernel)) ggL_law_X8_clear
set_option maxRecDepth 20000 in
theorem ggL_law_X7_read : GoodIn wsL_law wsX7_read := goodIn_r _ [234, 23, 16, 15, 235, 236, 237, 22, 238, 74, 72, 73, 239, 117, 118, 14, 119, 44, 45, 55, 56, 57, 58, 120, 121, 122, 54, 123, 63, 240, 241, 242, 243, 71, 244, 245, 246, 247, 70, 248, 249, 250, 251, 75, 252, 253, 254, 255, 256, 257, 258, 259, 260, 261, 262, 263, 264, 265, 266, 267, 268, 269, 270, 271, 272, 273, 274, 275, 276, 277, 278, 279, 280, 281, 282, 283, 284, 285, 286, 287, 288, 289, 290, 291, 292, 293, 294, 295, 296, 297, 298, 299, 300, 301, 302, 303, 304, 305, 306, 307, 308, 309, 310, 311, 312, 313, 314, 315, 316, 317, 318, 148, 149, 150, 47, 48, 319, 320, 321, 322, 323, 324, 179, 180, 181, 325, 183, 184, 185, 49, 50, 51, 326, 327, 328, 329, 330, 331, 332, 333, 334, 335, 336, 337, 338, 339, 340, 341, 342, 343, 344, 345, 346, 347, 348, 349, 350, 351, 352, 353, 354, 355, 356, 357, 358, 359, 360, 361, 362, 363, 364, 365, 366, 367, 368, 369, 370, 371, 372, 373, 374, 375, 64, 376, 65, 377, 1064, 1065, 1066, 1067, 1068, 1069, 1070, 1071, 1072, 1073, 1074, 1075, 1076, 1107, 1108, 1109, 1110, 1111, 1112, 1096, 1097, 1098, 1099, 1100, 1101, 1102, 1103, 1104, 1105, 1106, 1119, 1120, 1121] (by decide +kernel) (by decide +kernel)
set_option maxRecDepth 20000 in
theorem gL_law_X7_read : GoodIn wsL_law (wsV RL 36 RX7 yX7_read wsX7_read) := goodIn_app (goodIn_of _ (by decide +kernel)) ggL_law_X7_read
set_option maxRecDepth 20000 in
theorem ggL_law_X8_read : GoodIn wsL_law wsX8_read := goodIn_r _ [381, 382, 383, 106, 95, 384, 385, 386, 5, 387, 218, 105, 388, 389, 390, 391, 392, 393, 394, 159, 160, 161, 395, 396, 397, 398, 399, 400, 401, 402, 403, 404, 405, 406, 407, 108, 109, 110, 408, 409, 410, 411, 412, 413, 414, 415, 107, 416, 417, 418, 419, 420, 421, 422, 423, 198, 199, 200, 424, 425, 426, 427, 428, 429, 430, 431, 432, 433, 434, 435, 436, 437, 438, 439, 440, 441, 442, 443, 444, 445, 446, 1077, 1078, 1079, 1080, 1081, 1082, 1083, 1084, 1085, 1086, 1087, 1088, 1089, 1090, 1091, 1092, 1093, 1094, 1095] (by decide +kernel) (by decide +kernel)
set_option maxRecDepth 20000 in
theorem gL_law_X8_read : GoodIn wsL_law (wsV RL 39 RX8 yX8_read wsX8_read) := goodIn_app (goodIn_of _ (by decide +kernel)) ggL_law_X8_read
set_option maxRecDepth 20000 in
theorem ggL_law_X7_calls : GoodIn wsL_law wsX7_calls := goodIn_r _ [450, 15, 178, 179, 180, 14, 181, 44, 143, 144, 145, 2, 146, 38, 39, 40, 451, 339, 340, 341, 45, 51, 49, 50, 48, 342, 343, 344, 345, 346, 452, 453, 454, 455, 58, 456, 457, 458, 54, 459, 63, 64, 460, 461, 462, 463, 65, 377, 369, 370, 371, 464, 465, 466, 467, 468, 469, 331, 332, 333, 334, 335, 336, 337, 338, 1064, 1065, 1066, 1067, 1068, 1069, 1070, 1071, 1072, 1073, 1074, 1075, 1076, 1096, 1097, 1098, 1099, 1100, 1101, 1102, 1103, 1104, 1105, 1106, 1119, 1120, 1121] (by decide +kernel) (by decide +kernel)
set_option maxRecDepth 20000 in
theorem gL_law_X7_calls : GoodIn wsL_law (wsV RL 40 RX7 yX7_calls wsX7_calls) := goodIn_app (goodIn_of _ (by decide +kernel)) ggL_law_X7_calls
set_option maxRecDepth 20000 in
theorem ggL_law_X8_calls : GoodIn wsL_law wsX8_calls := goodIn_r _ [473, 95, 194, 195, 196, 5, 197, 159, 160, 161, 162, 163, 164, 165, 98, 428, 429, 430, 474, 475, 476, 477, 478, 479, 480, 481, 431, 432, 433, 434, 435, 436, 437, 438, 439, 440, 441, 442, 1077, 1078, 1079, 1080, 1081, 1082, 1083, 1084, 1085, 1086, 1087, 1088, 1089, 1090, 1091, 1092, 1093, 1094, 1095] (by decide +kernel) (by decide +kernel)
set_option maxRecDepth 20000 in
theorem gL_law_X8_calls : GoodIn wsL_law (wsV RL 43 RX8 yX8_calls wsX8_calls) := goodIn_app (goodIn_of _ (by decide +kernel)) ggL_law_X8_calls
