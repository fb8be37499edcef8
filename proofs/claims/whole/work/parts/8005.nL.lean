set_option maxRecDepth 20000 in
theorem ggL_law_X7_lasts : GoodIn wsL_law wsX7_lasts := goodIn_r _ [643, 15, 16, 178, 179, 180, 14, 181, 44, 591, 592, 2, 593, 140, 141, 142, 143, 144, 145, 146, 38, 39, 40, 630, 365, 366, 367, 45, 47, 368, 369, 370, 371, 48, 49, 50, 51, 612, 613, 614, 615, 616, 490, 491, 492, 493, 494, 495, 496, 497, 498, 499, 500, 501, 502, 503, 342, 617, 565, 566, 567, 618, 595, 345, 596, 469, 331, 332, 333, 334, 335, 336, 337, 338, 339, 340, 341, 343, 344, 346, 1064, 1065, 1066, 1067, 1068, 1069, 1070, 1071, 1072, 1073, 1074, 1075, 1076, 1096, 1097, 1098, 1099, 1100, 1101, 1102, 1103, 1104, 1105, 1106] (by decide +kernel) (by decide +kernel)
set_option maxRecDepth 20000 in
theorem gL_law_X7_lasts : GoodIn wsL_law (wsV RL 77 RX7 yX7_lasts wsX7_lasts) := goodIn_app (goodIn_of _ (by decide +kernel)) ggL_law_X7_lasts
set_option maxRecDepth 20000 in
theorem ggL_law_X8_lasts : GoodIn wsL_law wsX8_lasts := goodIn_r _ [647, 100, 194, 195, 196, 5, 197, 95, 159, 160, 161, 601, 602, 603, 604, 162, 163, 164, 165, 98, 636, 637, 638, 639, 623, 624, 625, 428, 429, 430, 576, 577, 578, 605, 606, 607, 431, 432, 433, 434, 435, 436, 437, 438, 439, 440, 441, 442, 1077, 1078, 1079, 1080, 1081, 1082, 1083, 1084, 1085, 1086, 1087, 1088, 1089, 1090, 1091, 1092, 1093, 1094, 1095] (by decide +kernel) (by decide +kernel)
set_option maxRecDepth 20000 in
theorem gL_law_X8_lasts : GoodIn wsL_law (wsV RL 80 RX8 yX8_lasts wsX8_lasts) := goodIn_app (goodIn_of _ (by decide +kernel)) ggL_law_X8_lasts
set_option maxRecDepth 20000 in
theorem ggL_law_X7_few : GoodIn wsL_law wsX7_few := goodIn_r _ [651, 16, 15, 27, 140, 141, 2, 142, 174, 175, 176, 177, 178, 179, 180, 14, 181, 44, 143, 144, 145, 146, 38, 39, 40, 630, 365, 366, 367, 45, 47, 368, 369, 370, 371, 48, 49, 50, 51, 652, 653, 654, 26, 655, 656, 565, 566, 567, 657, 658, 659, 660, 79, 661, 662, 663, 331, 332, 333, 334, 335, 336, 337, 338, 339, 340, 341, 342, 343, 344, 345, 346, 664, 665, 666, 667, 80, 668, 669, 670, 671, 672, 673, 674, 675, 1064, 1065, 1066, 1067, 1068, 1069, 1070, 1071, 1072, 1073, 1074, 1075, 1076, 1096, 1097, 1098, 1099, 1100, 1101, 1102, 1103, 1104, 1105, 1106, 1113, 1114] (by decide +kernel) (by decide +kernel)
set_option maxRecDepth 20000 in
theorem gL_law_X7_few : GoodIn wsL_law (wsV RL 81 RX7 yX7_few wsX7_few) := goodIn_app (goodIn_of _ (by decide +kernel)) ggL_law_X7_few
set_option maxRecDepth 20000 in
theorem ggL_law_X8_few : GoodIn wsL_law wsX8_few := goodIn_r _ [679, 680, 681, 101, 102, 159, 160, 5, 161, 194, 195, 196, 197, 95, 162, 163, 164, 165, 98, 682, 683, 684, 685, 100, 636, 637, 638, 639, 428, 429, 430, 431, 432, 433, 434, 435, 436, 437, 438, 439, 440, 441, 442, 576, 577, 578, 1077, 1078, 1079, 1080, 1081, 1082, 1083, 1084, 1085, 1086, 1087, 1088, 1089, 1090, 1091, 1092, 1093, 1094, 1095] (by decide +kernel) (by decide +kernel)
set_option maxRecDepth 20000 in
theorem gL_law_X8_few : GoodIn wsL_law (wsV RL 84 RX8 yX8_few wsX8_few) := goodIn_app (goodIn_of _ (by decide +kernel)) ggL_law_X8_few
set_option maxRecDepth 20000 in
theorem ggL_law_X7_crew : GoodIn wsL_law wsX7_crew := goodIn_r _ [689, 15, 31, 591, 592, 2, 593, 140, 141, 142, 487, 353, 354, 14, 355, 45, 143, 144, 145, 146, 38, 39, 40, 690, 691, 692, 30, 693, 85, 694, 86, 695, 494, 495, 496, 51, 696, 697, 698, 699, 700, 84, 701, 702, 490, 491, 492, 493, 497, 498, 499, 500, 501, 502, 503, 703, 565, 566, 567, 50, 704, 705, 706, 707, 708, 709, 595, 345, 596, 710, 711, 712, 713, 714, 715, 716, 717, 718, 719, 720, 721, 722, 723, 724, 725, 726, 727, 728, 729, 1064, 1065, 1066, 1067, 1068, 1069, 1070, 1071, 1072, 1073, 1074, 1075, 1076, 1096, 1097, 1098, 1099, 1100, 1101, 1102, 1103, 1104, 1105, 1106, 1115, 1116, 1117] (by decide +kernel) (by decide +kernel)
set_option maxRecDepth 20000 in
theorem gL_law_X7_crew : GoodIn wsL_law (wsV RL 85 RX7 yX7_crew wsX7_crew) := goodIn_app (goodIn_of _ (by decide +kernel)) ggL_law_X7_crew
set_option maxRecDepth 20000 in
theorem ggL_law_X8_crew : GoodIn wsL_law wsX8_crew := goodIn_r _ [733, 103, 601, 602, 5, 603, 604, 159, 160, 161, 508, 509, 510, 511, 128, 129, 130, 131, 95, 162, 163, 164, 165, 98, 734, 735, 736, 737, 100, 636, 637, 638, 639, 623, 624, 625, 428, 429, 430, 576, 577, 578, 605, 606, 607, 1077, 1078, 1079, 1080, 1081, 1082, 1083, 1084, 1085, 1086, 1087, 1088, 1089, 1090, 1091, 1092, 1093, 1094, 1095] (by decide +kernel) (by decide +kernel)
set_option maxRecDepth 20000 in
theorem gL_law_X8_crew : GoodIn wsL_law (wsV RL 88 RX8 yX8_crew wsX8_crew) := goodIn_app (goodIn_of _ (by decide +kernel)) ggL_law_X8_crew
set_option maxRecDepth 20000 in
theorem ggL_law_X7_seen : GoodIn wsL_law wsX7_seen := goodIn_r _ [741, 15, 742, 487, 353, 354, 14, 355, 45, 140, 141, 2, 142, 143, 144, 145, 146, 38, 39, 40, 743, 744, 745, 746, 747, 457, 458, 54, 459, 63, 64, 748, 465, 466, 467, 65, 468, 517, 518, 519, 520, 1064, 1065, 1066, 1067, 1068, 1069, 1070, 1071, 1072, 1073, 1074, 1075, 1076, 1096, 1097, 1098, 1099, 1100, 1101, 1102, 1103, 1104, 1105, 1106, 1119, 1120, 1121] (by decide +kernel) (by decide +kernel)
set_option maxRecDepth 20000 in
theorem gL_law_X7_seen : GoodIn wsL_law (wsV RL 89 RX7 yX7_seen wsX7_seen) := goodIn_app (goodIn_of _ (by decide +kernel)) ggL_law_X7_seen
set_option maxRecDepth 20000 in
theorem ggL_law_X8_seen : GoodIn wsL_law wsX8_seen := goodIn_r _ [752, 753, 604, 95, 508, 509, 510, 5, 511, 128, 129, 130, 131, 159, 160, 161, 162, 163, 164, 165, 98, 166, 167, 168, 169, 754, 755, 756, 757, 1077, 1078, 1079, 1080, 1081, 1082, 1083, 1084, 1085, 1086, 1087, 1088, 1089, 1090, 1091, 1092, 1093, 1094, 1095] (by decide +kernel) (by decide +kernel)
set_option maxRecDepth 20000 in
theorem gL_law_X8_seen : GoodIn wsL_law (wsV RL 93 RX8 yX8_seen wsX8_seen) := goodIn_app (goodIn_of _ (by decide +kernel)) ggL_law_X8_seen
