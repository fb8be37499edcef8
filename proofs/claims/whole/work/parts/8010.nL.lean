set_option maxRecDepth 20000 in
theorem ggL_law_X7_count : GoodIn wsL_law wsX7_count := goodIn_r _ [1021, 140, 141, 2, 142, 1022, 1023, 1024, 1025, 15, 115, 136, 742, 814, 823, 516, 23, 489, 490, 491, 14, 492, 493, 494, 495, 496, 45, 51, 497, 498, 499, 500, 501, 502, 503, 564, 565, 566, 567, 50, 1026, 1027, 1028, 1029, 44, 48, 517, 518, 519, 54, 520, 63, 205, 206, 207, 22, 208, 71, 143, 144, 145, 146, 38, 39, 40, 1064, 1065, 1066, 1067, 1068, 1069, 1070, 1071, 1072, 1073, 1074, 1075, 1076, 1096, 1097, 1098, 1099, 1100, 1101, 1102, 1103, 1104, 1105, 1106, 1119, 1120, 1121, 1107, 1108, 1109, 1110, 1111, 1112] (by decide +kernel) (by decide +kernel)
set_option maxRecDepth 20000 in
theorem gL_law_X7_count : GoodIn wsL_law (wsV RL 159 RX7 yX7_count wsX7_count) := goodIn_app (goodIn_of _ (by decide +kernel)) ggL_law_X7_count
set_option maxRecDepth 20000 in
theorem ggL_law_X8_count : GoodIn wsL_law wsX8_count := goodIn_r _ [1033, 193, 159, 160, 5, 161, 1034, 1035, 1036, 1037, 95, 218, 128, 129, 130, 131, 539, 540, 541, 428, 429, 430, 576, 577, 578, 162, 163, 164, 165, 98, 1077, 1078, 1079, 1080, 1081, 1082, 1083, 1084, 1085, 1086, 1087, 1088, 1089, 1090, 1091, 1092, 1093, 1094, 1095] (by decide +kernel) (by decide +kernel)
set_option maxRecDepth 20000 in
theorem gL_law_X8_count : GoodIn wsL_law (wsV RL 162 RX8 yX8_count wsX8_count) := goodIn_app (goodIn_of _ (by decide +kernel)) ggL_law_X8_count
set_option maxRecDepth 20000 in
theorem ggL_law_X7_digest : GoodIn wsL_law wsX7_digest := goodIn_r _ [1041, 1042, 1043, 15, 36, 37, 1022, 1023, 1024, 2, 1025, 115, 136, 742, 814, 823, 516, 23, 489, 490, 491, 14, 492, 493, 494, 495, 496, 45, 51, 497, 498, 499, 500, 501, 502, 503, 564, 565, 566, 567, 50, 1026, 1027, 1028, 1029, 44, 48, 517, 518, 519, 54, 520, 63, 205, 206, 207, 22, 208, 71, 1044, 1045, 1046, 1047, 1048, 47, 49, 57, 56, 55, 1049, 1050, 1051, 1052, 1053, 65, 1064, 1065, 1066, 1067, 1068, 1069, 1070, 1071, 1072, 1073, 1074, 1075, 1076, 1096, 1097, 1098, 1099, 1100, 1101, 1102, 1103, 1104, 1105, 1106, 1119, 1120, 1121, 1107, 1108, 1109, 1110, 1111, 1112] (by decide +kernel) (by decide +kernel)
set_option maxRecDepth 20000 in
theorem gL_law_X7_digest : GoodIn wsL_law (wsV RL 163 RX7 yX7_digest wsX7_digest) := goodIn_app (goodIn_of _ (by decide +kernel)) ggL_law_X7_digest
set_option maxRecDepth 20000 in
theorem ggL_law_X8_digest : GoodIn wsL_law wsX8_digest := goodIn_r _ [1057, 1058, 1059, 95, 955, 99, 1034, 1035, 1036, 5, 1037, 218, 128, 129, 130, 131, 539, 540, 541, 428, 429, 430, 576, 577, 578, 1060, 1061, 1062, 1063, 1077, 1078, 1079, 1080, 1081, 1082, 1083, 1084, 1085, 1086, 1087, 1088, 1089, 1090, 1091, 1092, 1093, 1094, 1095] (by decide +kernel) (by decide +kernel)
set_option maxRecDepth 20000 in
theorem gL_law_X8_digest : GoodIn wsL_law (wsV RL 167 RX8 yX8_digest wsX8_digest) := goodIn_app (goodIn_of _ (by decide +kernel)) ggL_law_X8_digest
