set_option maxRecDepth 20000 in
theorem ggL_law_X7_ask : GoodIn wsL_law wsX7_ask := goodIn_r _ [909, 15, 35, 547, 487, 353, 354, 14, 355, 45, 143, 144, 145, 2, 146, 38, 39, 40, 890, 891, 892, 34, 893, 894, 895, 896, 897, 772, 518, 519, 54, 520, 63, 773, 527, 528, 529, 65, 774, 344, 345, 346, 910, 911, 912, 913, 90, 871, 872, 873, 874, 799, 800, 336, 801, 1064, 1065, 1066, 1067, 1068, 1069, 1070, 1071, 1072, 1073, 1074, 1075, 1076, 1096, 1097, 1098, 1099, 1100, 1101, 1102, 1103, 1104, 1105, 1106, 1119, 1120, 1121, 1118] (by decide +kernel) (by decide +kernel)
set_option maxRecDepth 20000 in
theorem gL_law_X7_ask : GoodIn wsL_law (wsV RL 126 RX7 yX7_ask wsX7_ask) := goodIn_app (goodIn_of _ (by decide +kernel)) ggL_law_X7_ask
set_option maxRecDepth 20000 in
theorem ggL_law_X8_ask : GoodIn wsL_law wsX8_ask := goodIn_r _ [917, 681, 104, 95, 508, 509, 510, 5, 511, 128, 129, 130, 131, 159, 160, 161, 162, 163, 164, 165, 98, 902, 903, 904, 905, 859, 860, 861, 862, 605, 606, 607, 440, 441, 442, 879, 880, 881, 882, 883, 884, 885, 1077, 1078, 1079, 1080, 1081, 1082, 1083, 1084, 1085, 1086, 1087, 1088, 1089, 1090, 1091, 1092, 1093, 1094, 1095] (by decide +kernel) (by decide +kernel)
set_option maxRecDepth 20000 in
theorem gL_law_X8_ask : GoodIn wsL_law (wsV RL 129 RX8 yX8_ask wsX8_ask) := goodIn_app (goodIn_of _ (by decide +kernel)) ggL_law_X8_ask
set_option maxRecDepth 20000 in
theorem ggL_law_X7_water : GoodIn wsL_law wsX7_water := goodIn_r _ [921, 15, 16, 178, 179, 180, 14, 181, 44, 591, 592, 2, 593, 140, 141, 142, 143, 144, 145, 146, 38, 39, 40, 630, 365, 366, 367, 45, 47, 368, 369, 370, 371, 48, 49, 50, 51, 469, 331, 332, 333, 334, 335, 336, 337, 338, 339, 340, 341, 342, 343, 344, 345, 346, 922, 923, 924, 925, 612, 613, 614, 615, 616, 490, 491, 492, 493, 494, 495, 496, 497, 498, 499, 500, 501, 502, 503, 617, 565, 566, 567, 618, 595, 596, 1064, 1065, 1066, 1067, 1068, 1069, 1070, 1071, 1072, 1073, 1074, 1075, 1076, 1096, 1097, 1098, 1099, 1100, 1101, 1102, 1103, 1104, 1105, 1106] (by decide +kernel) (by decide +kernel)
set_option maxRecDepth 20000 in
theorem gL_law_X7_water : GoodIn wsL_law (wsV RL 130 RX7 yX7_water wsX7_water) := goodIn_app (goodIn_of _ (by decide +kernel)) ggL_law_X7_water
set_option maxRecDepth 20000 in
theorem ggL_law_X8_water : GoodIn wsL_law wsX8_water := goodIn_r _ [929, 95, 194, 195, 196, 5, 197, 159, 160, 161, 601, 602, 603, 604, 162, 163, 164, 165, 98, 930, 931, 932, 933, 100, 636, 637, 638, 639, 431, 432, 433, 434, 435, 436, 437, 438, 439, 440, 441, 442, 623, 624, 625, 428, 429, 430, 576, 577, 578, 605, 606, 607, 934, 935, 936, 1077, 1078, 1079, 1080, 1081, 1082, 1083, 1084, 1085, 1086, 1087, 1088, 1089, 1090, 1091, 1092, 1093, 1094, 1095] (by decide +kernel) (by decide +kernel)
set_option maxRecDepth 20000 in
theorem gL_law_X8_water : GoodIn wsL_law (wsV RL 133 RX8 yX8_water wsX8_water) := goodIn_app (goodIn_of _ (by decide +kernel)) ggL_law_X8_water
set_option maxRecDepth 20000 in
theorem ggL_law_X7_lots : GoodIn wsL_law wsX7_lots := goodIn_r _ [940, 15, 486, 941, 335, 336, 337, 487, 353, 354, 14, 355, 45, 140, 141, 2, 142, 143, 144, 145, 146, 38, 39, 40, 489, 490, 491, 492, 493, 494, 495, 496, 51, 497, 498, 499, 500, 501, 502, 503, 942, 943, 944, 945, 946, 800, 801, 36, 37, 1064, 1065, 1066, 1067, 1068, 1069, 1070, 1071, 1072, 1073, 1074, 1075, 1076, 1096, 1097, 1098, 1099, 1100, 1101, 1102, 1103, 1104, 1105, 1106] (by decide +kernel) (by decide +kernel)
set_option maxRecDepth 20000 in
theorem gL_law_X7_lots : GoodIn wsL_law (wsV RL 134 RX7 yX7_lots wsX7_lots) := goodIn_app (goodIn_of _ (by decide +kernel)) ggL_law_X7_lots
set_option maxRecDepth 20000 in
theorem ggL_law_X8_lots : GoodIn wsL_law wsX8_lots := goodIn_r _ [950, 635, 95, 508, 509, 510, 5, 511, 128, 129, 130, 131, 159, 160, 161, 162, 163, 164, 165, 98, 474, 475, 476, 477, 428, 429, 430, 951, 952, 953, 954, 955, 99, 1077, 1078, 1079, 1080, 1081, 1082, 1083, 1084, 1085, 1086, 1087, 1088, 1089, 1090, 1091, 1092, 1093, 1094, 1095] (by decide +kernel) (by decide +kernel)
set_option maxRecDepth 20000 in
theorem gL_law_X8_lots : GoodIn wsL_law (wsV RL 137 RX8 yX8_lots wsX8_lots) := goodIn_app (goodIn_of _ (by decide +kernel)) ggL_law_X8_lots
set_option maxRecDepth 20000 in
theorem ggL_law_X7_centuries : GoodIn wsL_law wsX7_centuries := goodIn_r _ [959, 960, 16, 15, 961, 962, 963, 964, 965, 966, 967, 140, 141, 2, 142, 143, 144, 145, 146, 38, 39, 40, 630, 365, 366, 14, 367, 44, 45, 47, 368, 369, 370, 371, 48, 49, 50, 51, 968, 969, 970, 971, 342, 179, 180, 181, 972, 331, 332, 333, 334, 335, 336, 337, 338, 339, 340, 341, 343, 344, 345, 346, 530, 353, 354, 355, 973, 357, 358, 359, 564, 565, 566, 567, 1064, 1065, 1066, 1067, 1068, 1069, 1070, 1071, 1072, 1073, 1074, 1075, 1076, 1096, 1097, 1098, 1099, 1100, 1101, 1102, 1103, 1104, 1105, 1106] (by decide +kernel) (by decide +kernel)
set_option maxRecDepth 20000 in
theorem gL_law_X7_centuries : GoodIn wsL_law (wsV RL 138 RX7 yX7_centuries wsX7_centuries) := goodIn_app (goodIn_of _ (by decide +kernel)) ggL_law_X7_centuries
set_option maxRecDepth 20000 in
theorem ggL_law_X8_centuries : GoodIn wsL_law wsX8_centuries := goodIn_r _ [977, 978, 979, 980, 981, 982, 983, 556, 984, 985, 100, 159, 160, 5, 161, 162, 163, 164, 165, 98, 636, 637, 638, 639, 95, 194, 195, 196, 197, 431, 432, 433, 434, 435, 436, 437, 438, 439, 440, 441, 442, 508, 509, 510, 511, 128, 129, 130, 131, 576, 577, 578, 1077, 1078, 1079, 1080, 1081, 1082, 1083, 1084, 1085, 1086, 1087, 1088, 1089, 1090, 1091, 1092, 1093, 1094, 1095] (by decide +kernel) (by decide +kernel)
set_option maxRecDepth 20000 in
theorem gL_law_X8_centuries : GoodIn wsL_law (wsV RL 141 RX8 yX8_centuries wsX8_centuries) := goodIn_app (goodIn_of _ (by decide +kernel)) ggL_law_X8_centuries
