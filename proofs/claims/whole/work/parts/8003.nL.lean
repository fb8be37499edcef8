set_option maxRecDepth 20000 in
theorem ggL_law_X7_boards : GoodIn wsL_law wsX7_boards := goodIn_r _ [485, 15, 486, 178, 179, 180, 14, 181, 44, 487, 353, 354, 355, 45, 143, 144, 145, 2, 146, 38, 39, 40, 452, 453, 454, 455, 58, 48, 51, 456, 457, 458, 54, 459, 63, 64, 460, 461, 462, 463, 65, 377, 369, 370, 371, 464, 465, 466, 467, 468, 488, 357, 358, 359, 489, 490, 491, 492, 493, 494, 495, 496, 497, 498, 499, 500, 501, 502, 503, 1064, 1065, 1066, 1067, 1068, 1069, 1070, 1071, 1072, 1073, 1074, 1075, 1076, 1096, 1097, 1098, 1099, 1100, 1101, 1102, 1103, 1104, 1105, 1106, 1119, 1120, 1121] (by decide +kernel) (by decide +kernel)
set_option maxRecDepth 20000 in
theorem gL_law_X7_boards : GoodIn wsL_law (wsV RL 44 RX7 yX7_boards wsX7_boards) := goodIn_app (goodIn_of _ (by decide +kernel)) ggL_law_X7_boards
set_option maxRecDepth 20000 in
theorem ggL_law_X8_boards : GoodIn wsL_law wsX8_boards := goodIn_r _ [507, 95, 194, 195, 196, 5, 197, 159, 160, 161, 508, 509, 510, 511, 128, 129, 130, 131, 162, 163, 164, 165, 98, 474, 475, 476, 477, 478, 479, 480, 481, 428, 429, 430, 1077, 1078, 1079, 1080, 1081, 1082, 1083, 1084, 1085, 1086, 1087, 1088, 1089, 1090, 1091, 1092, 1093, 1094, 1095] (by decide +kernel) (by decide +kernel)
set_option maxRecDepth 20000 in
theorem gL_law_X8_boards : GoodIn wsL_law (wsV RL 48 RX8 yX8_boards wsX8_boards) := goodIn_app (goodIn_of _ (by decide +kernel)) ggL_law_X8_boards
set_option maxRecDepth 20000 in
theorem ggL_law_X7_undo : GoodIn wsL_law wsX7_undo := goodIn_r _ [515, 15, 516, 517, 518, 519, 54, 520, 63, 143, 144, 145, 2, 146, 38, 39, 40, 521, 522, 523, 14, 524, 58, 48, 51, 525, 526, 527, 528, 529, 65, 342, 179, 180, 181, 44, 530, 353, 354, 355, 45, 531, 532, 533, 534, 489, 490, 491, 492, 493, 494, 495, 496, 497, 498, 499, 500, 501, 502, 503, 1064, 1065, 1066, 1067, 1068, 1069, 1070, 1071, 1072, 1073, 1074, 1075, 1076, 1096, 1097, 1098, 1099, 1100, 1101, 1102, 1103, 1104, 1105, 1106, 1119, 1120, 1121] (by decide +kernel) (by decide +kernel)
set_option maxRecDepth 20000 in
theorem gL_law_X7_undo : GoodIn wsL_law (wsV RL 49 RX7 yX7_undo wsX7_undo) := goodIn_app (goodIn_of _ (by decide +kernel)) ggL_law_X7_undo
set_option maxRecDepth 20000 in
theorem ggL_law_X8_undo : GoodIn wsL_law wsX8_undo := goodIn_r _ [538, 95, 474, 475, 476, 5, 477, 98, 539, 540, 541, 428, 429, 430, 1077, 1078, 1079, 1080, 1081, 1082, 1083, 1084, 1085, 1086, 1087, 1088, 1089, 1090, 1091, 1092, 1093, 1094, 1095] (by decide +kernel) (by decide +kernel)
set_option maxRecDepth 20000 in
theorem gL_law_X8_undo : GoodIn wsL_law (wsV RL 52 RX8 yX8_undo wsX8_undo) := goodIn_app (goodIn_of _ (by decide +kernel)) ggL_law_X8_undo
set_option maxRecDepth 20000 in
theorem ggL_law_X7_of : GoodIn wsL_law wsX7_of := goodIn_r _ [545, 15, 546, 547, 486, 487, 353, 354, 14, 355, 45, 143, 144, 145, 2, 146, 38, 39, 40, 548, 549, 550, 551, 51, 49, 50, 48, 342, 179, 180, 181, 44, 343, 344, 345, 346, 1064, 1065, 1066, 1067, 1068, 1069, 1070, 1071, 1072, 1073, 1074, 1075, 1076, 1096, 1097, 1098, 1099, 1100, 1101, 1102, 1103, 1104, 1105, 1106] (by decide +kernel) (by decide +kernel)
set_option maxRecDepth 20000 in
theorem gL_law_X7_of : GoodIn wsL_law (wsV RL 53 RX7 yX7_of wsX7_of) := goodIn_app (goodIn_of _ (by decide +kernel)) ggL_law_X7_of
set_option maxRecDepth 20000 in
theorem ggL_law_X8_of : GoodIn wsL_law wsX8_of := goodIn_r _ [555, 556, 95, 508, 509, 510, 5, 511, 128, 129, 130, 131, 159, 160, 161, 162, 163, 164, 165, 98, 437, 438, 439, 440, 441, 442, 1077, 1078, 1079, 1080, 1081, 1082, 1083, 1084, 1085, 1086, 1087, 1088, 1089, 1090, 1091, 1092, 1093, 1094, 1095] (by decide +kernel) (by decide +kernel)
set_option maxRecDepth 20000 in
theorem gL_law_X8_of : GoodIn wsL_law (wsV RL 56 RX8 yX8_of wsX8_of) := goodIn_app (goodIn_of _ (by decide +kernel)) ggL_law_X8_of
set_option maxRecDepth 20000 in
theorem ggL_law_X7_about : GoodIn wsL_law wsX7_about := goodIn_r _ [560, 15, 561, 562, 178, 179, 180, 14, 181, 44, 143, 144, 145, 2, 146, 38, 39, 40, 563, 494, 495, 496, 45, 51, 564, 565, 566, 567, 50, 1064, 1065, 1066, 1067, 1068, 1069, 1070, 1071, 1072, 1073, 1074, 1075, 1076, 1096, 1097, 1098, 1099, 1100, 1101, 1102, 1103, 1104, 1105, 1106] (by decide +kernel) (by decide +kernel)
set_option maxRecDepth 20000 in
theorem gL_law_X7_about : GoodIn wsL_law (wsV RL 57 RX7 yX7_about wsX7_about) := goodIn_app (goodIn_of _ (by decide +kernel)) ggL_law_X7_about
set_option maxRecDepth 20000 in
theorem ggL_law_X8_about : GoodIn wsL_law wsX8_about := goodIn_r _ [571, 556, 95, 194, 195, 196, 5, 197, 159, 160, 161, 162, 163, 164, 165, 98, 572, 573, 574, 575, 128, 129, 130, 131, 576, 577, 578, 1077, 1078, 1079, 1080, 1081, 1082, 1083, 1084, 1085, 1086, 1087, 1088, 1089, 1090, 1091, 1092, 1093, 1094, 1095] (by decide +kernel) (by decide +kernel)
set_option maxRecDepth 20000 in
theorem gL_law_X8_about : GoodIn wsL_law (wsV RL 60 RX8 yX8_about wsX8_about) := goodIn_app (goodIn_of _ (by decide +kernel)) ggL_law_X8_about
