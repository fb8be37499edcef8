set_option maxRecDepth 20000 in
theorem ggL_law_X7_skilled : GoodIn wsL_law wsX7_skilled := goodIn_r _ [761, 15, 35, 487, 353, 354, 14, 355, 45, 140, 141, 2, 142, 143, 144, 145, 146, 38, 39, 40, 762, 763, 764, 34, 765, 766, 767, 768, 769, 770, 771, 772, 518, 519, 54, 520, 63, 773, 527, 528, 529, 65, 774, 344, 345, 346, 775, 498, 499, 500, 501, 502, 503, 776, 777, 778, 779, 780, 781, 1064, 1065, 1066, 1067, 1068, 1069, 1070, 1071, 1072, 1073, 1074, 1075, 1076, 1096, 1097, 1098, 1099, 1100, 1101, 1102, 1103, 1104, 1105, 1106, 1119, 1120, 1121] (by decide +kernel) (by decide +kernel)
set_option maxRecDepth 20000 in
theorem gL_law_X7_skilled : GoodIn wsL_law (wsV RL 94 RX7 yX7_skilled wsX7_skilled) := goodIn_app (goodIn_of _ (by decide +kernel)) ggL_law_X7_skilled
set_option maxRecDepth 20000 in
theorem ggL_law_X8_skilled : GoodIn wsL_law wsX8_skilled := goodIn_r _ [785, 786, 508, 509, 510, 5, 511, 128, 129, 130, 131, 95, 159, 160, 161, 162, 163, 164, 165, 98, 787, 788, 789, 790, 440, 441, 442, 1077, 1078, 1079, 1080, 1081, 1082, 1083, 1084, 1085, 1086, 1087, 1088, 1089, 1090, 1091, 1092, 1093, 1094, 1095] (by decide +kernel) (by decide +kernel)
set_option maxRecDepth 20000 in
theorem gL_law_X8_skilled : GoodIn wsL_law (wsV RL 97 RX8 yX8_skilled wsX8_skilled) := goodIn_app (goodIn_of _ (by decide +kernel)) ggL_law_X8_skilled
set_option maxRecDepth 20000 in
theorem ggL_law_X7_tell : GoodIn wsL_law wsX7_tell := goodIn_r _ [794, 15, 35, 546, 487, 353, 354, 14, 355, 45, 143, 144, 145, 2, 146, 38, 39, 40, 762, 763, 764, 34, 765, 766, 767, 768, 769, 770, 771, 772, 518, 519, 54, 520, 63, 773, 527, 528, 529, 65, 774, 344, 345, 346, 795, 796, 797, 798, 799, 800, 336, 801, 802, 803, 804, 805, 498, 499, 500, 501, 502, 503, 1064, 1065, 1066, 1067, 1068, 1069, 1070, 1071, 1072, 1073, 1074, 1075, 1076, 1096, 1097, 1098, 1099, 1100, 1101, 1102, 1103, 1104, 1105, 1106, 1119, 1120, 1121] (by decide +kernel) (by decide +kernel)
set_option maxRecDepth 20000 in
theorem gL_law_X7_tell : GoodIn wsL_law (wsV RL 98 RX7 yX7_tell wsX7_tell) := goodIn_app (goodIn_of _ (by decide +kernel)) ggL_law_X7_tell
set_option maxRecDepth 20000 in
theorem ggL_law_X8_tell : GoodIn wsL_law wsX8_tell := goodIn_r _ [809, 681, 95, 508, 509, 510, 5, 511, 128, 129, 130, 131, 159, 160, 161, 162, 163, 164, 165, 98, 440, 441, 442, 787, 788, 789, 790, 1077, 1078, 1079, 1080, 1081, 1082, 1083, 1084, 1085, 1086, 1087, 1088, 1089, 1090, 1091, 1092, 1093, 1094, 1095] (by decide +kernel) (by decide +kernel)
set_option maxRecDepth 20000 in
theorem gL_law_X8_tell : GoodIn wsL_law (wsV RL 101 RX8 yX8_tell wsX8_tell) := goodIn_app (goodIn_of _ (by decide +kernel)) ggL_law_X8_tell
set_option maxRecDepth 20000 in
theorem ggL_law_X7_note : GoodIn wsL_law wsX7_note := goodIn_r _ [813, 15, 814, 178, 179, 180, 14, 181, 44, 591, 592, 2, 593, 140, 141, 142, 143, 144, 145, 146, 38, 39, 40, 743, 744, 745, 746, 747, 457, 458, 54, 459, 63, 64, 748, 465, 466, 467, 65, 468, 517, 518, 519, 520, 1064, 1065, 1066, 1067, 1068, 1069, 1070, 1071, 1072, 1073, 1074, 1075, 1076, 1096, 1097, 1098, 1099, 1100, 1101, 1102, 1103, 1104, 1105, 1106, 1119, 1120, 1121] (by decide +kernel) (by decide +kernel)
set_option maxRecDepth 20000 in
theorem gL_law_X7_note : GoodIn wsL_law (wsV RL 102 RX7 yX7_note wsX7_note) := goodIn_app (goodIn_of _ (by decide +kernel)) ggL_law_X7_note
set_option maxRecDepth 20000 in
theorem ggL_law_X8_note : GoodIn wsL_law wsX8_note := goodIn_r _ [818, 635, 753, 95, 194, 195, 196, 5, 197, 159, 160, 161, 601, 602, 603, 604, 162, 163, 164, 165, 98, 166, 167, 168, 169, 754, 755, 756, 757, 1077, 1078, 1079, 1080, 1081, 1082, 1083, 1084, 1085, 1086, 1087, 1088, 1089, 1090, 1091, 1092, 1093, 1094, 1095] (by decide +kernel) (by decide +kernel)
set_option maxRecDepth 20000 in
theorem gL_law_X8_note : GoodIn wsL_law (wsV RL 105 RX8 yX8_note wsX8_note) := goodIn_app (goodIn_of _ (by decide +kernel)) ggL_law_X8_note
set_option maxRecDepth 20000 in
theorem ggL_law_X7_mark : GoodIn wsL_law wsX7_mark := goodIn_r _ [822, 15, 823, 487, 353, 354, 14, 355, 45, 140, 141, 2, 142, 143, 144, 145, 146, 38, 39, 40, 743, 744, 745, 746, 747, 457, 458, 54, 459, 63, 64, 748, 465, 466, 467, 65, 468, 517, 518, 519, 520, 1064, 1065, 1066, 1067, 1068, 1069, 1070, 1071, 1072, 1073, 1074, 1075, 1076, 1096, 1097, 1098, 1099, 1100, 1101, 1102, 1103, 1104, 1105, 1106, 1119, 1120, 1121] (by decide +kernel) (by decide +kernel)
set_option maxRecDepth 20000 in
theorem gL_law_X7_mark : GoodIn wsL_law (wsV RL 106 RX7 yX7_mark wsX7_mark) := goodIn_app (goodIn_of _ (by decide +kernel)) ggL_law_X7_mark
set_option maxRecDepth 20000 in
theorem ggL_law_X8_mark : GoodIn wsL_law wsX8_mark := goodIn_r _ [827, 753, 828, 95, 508, 509, 510, 5, 511, 128, 129, 130, 131, 159, 160, 161, 190, 191, 192, 193, 162, 163, 164, 165, 98, 166, 167, 168, 169, 754, 755, 756, 757, 1077, 1078, 1079, 1080, 1081, 1082, 1083, 1084, 1085, 1086, 1087, 1088, 1089, 1090, 1091, 1092, 1093, 1094, 1095] (by decide +kernel) (by decide +kernel)
set_option maxRecDepth 20000 in
theorem gL_law_X8_mark : GoodIn wsL_law (wsV RL 109 RX8 yX8_mark wsX8_mark) := goodIn_app (goodIn_of _ (by decide +kernel)) ggL_law_X8_mark
