set_option maxRecDepth 20000 in
theorem ggL_law_X10_leaving : GoodIn wsL_law wsX10_leaving := goodIn_r _ [987, 16, 54, 33, 137, 138, 139, 15, 140, 66, 988, 989, 990, 53, 991, 135, 136, 992, 889, 890, 32, 891, 102, 884, 885, 886, 887, 892, 597, 598, 599, 515, 500, 501, 502, 99, 600, 601, 602, 893, 761, 762, 763, 101, 764, 741, 742, 152, 153, 154, 155, 103, 100, 156, 157, 158, 159, 993, 994, 995, 996, 997, 998, 999, 564, 565, 566, 1000, 517, 518, 519, 1001, 656, 657, 658, 659, 475, 476, 477, 65, 338, 339, 340, 1002, 1003, 1004, 1005, 531, 532, 533, 534, 535, 536, 537, 538, 1006, 1007, 1008, 1009, 1010, 499, 1011, 1012, 1013, 1014, 1015, 1016, 1017, 1018, 1142, 1143, 1144, 1145, 1146, 1147, 1148, 1149, 1150, 1151, 1152, 1153, 1154, 1172, 1173, 1174, 1175, 1176, 1177, 1212, 1213, 1196, 1197, 1198, 1199, 1200] (by decide +kernel) (by decide +kernel)
set_option maxRecDepth 20000 in
theorem gL_law_X10_leaving : GoodIn wsL_law (wsV RL 112 RX10 yX10_leaving wsX10_leaving) := goodIn_app (goodIn_of _ (by decide +kernel)) ggL_law_X10_leaving
set_option maxRecDepth 20000 in
theorem ggL_law_X11_leaving : GoodIn wsL_law wsX11_leaving := goodIn_r _ [1022, 201, 169, 166, 487, 488, 489, 5, 490, 491, 492, 493, 494, 165, 204, 205, 206, 1023, 1024, 1025, 1026, 171, 575, 576, 577, 578, 543, 544, 545, 546, 547, 548, 549, 550, 551, 552, 553, 554, 1155, 1156, 1157, 1158, 1159, 1160, 1161, 1162, 1163, 1164, 1165, 1166, 1167, 1168, 1169, 1170, 1171] (by decide +kernel) (by decide +kernel)
set_option maxRecDepth 20000 in
theorem gL_law_X11_leaving : GoodIn wsL_law (wsV RL 115 RX11 yX11_leaving wsX11_leaving) := goodIn_app (goodIn_of _ (by decide +kernel)) ggL_law_X11_leaving
set_option maxRecDepth 20000 in
theorem ggL_law_X10_evening : GoodIn wsL_law wsX10_evening := goodIn_r _ [1030, 16, 41, 33, 137, 138, 139, 15, 140, 66, 755, 756, 757, 40, 758, 115, 759, 527, 528, 529, 32, 530, 515, 500, 501, 502, 102, 99, 531, 532, 533, 534, 101, 535, 536, 537, 538, 152, 153, 154, 155, 103, 100, 156, 157, 158, 159, 668, 669, 670, 671, 516, 517, 518, 519, 520, 521, 522, 523, 524, 525, 526, 1142, 1143, 1144, 1145, 1146, 1147, 1148, 1149, 1150, 1151, 1152, 1153, 1154, 1172, 1173, 1174, 1175, 1176, 1177, 1205, 1196, 1197, 1198, 1199, 1200] (by decide +kernel) (by decide +kernel)
set_option maxRecDepth 20000 in
theorem gL_law_X10_evening : GoodIn wsL_law (wsV RL 116 RX10 yX10_evening wsX10_evening) := goodIn_app (goodIn_of _ (by decide +kernel)) ggL_law_X10_evening
set_option maxRecDepth 20000 in
theorem ggL_law_X11_evening : GoodIn wsL_law wsX11_evening := goodIn_r _ [1034, 201, 166, 204, 205, 5, 206, 491, 492, 493, 494, 165, 769, 770, 771, 772, 773, 774, 543, 544, 545, 546, 547, 548, 549, 550, 551, 552, 553, 554, 692, 693, 694, 695, 1155, 1156, 1157, 1158, 1159, 1160, 1161, 1162, 1163, 1164, 1165, 1166, 1167, 1168, 1169, 1170, 1171] (by decide +kernel) (by decide +kernel)
set_option maxRecDepth 20000 in
theorem gL_law_X11_evening : GoodIn wsL_law (wsV RL 119 RX11 yX11_evening wsX11_evening) := goodIn_app (goodIn_of _ (by decide +kernel)) ggL_law_X11_evening
set_option maxRecDepth 20000 in
theorem ggL_law_X10_rate : GoodIn wsL_law wsX10_rate := goodIn_r _ [1038, 457, 462, 463, 464, 2, 465, 16, 137, 138, 139, 15, 140, 66, 1039, 1040, 1041, 1042, 55, 33, 499, 500, 501, 32, 502, 102, 99, 583, 517, 518, 519, 103, 100, 1043, 521, 522, 523, 524, 525, 526, 1044, 1045, 1046, 1047, 1048, 1049, 656, 657, 658, 659, 475, 476, 477, 65, 338, 339, 340, 1050, 1051, 1052, 1053, 1054, 1055, 639, 640, 641, 60, 1056, 1057, 1058, 1059, 1060, 1061, 1062, 1063, 1064, 1065, 1066, 1067, 1068, 1069, 1070, 563, 564, 565, 566, 1142, 1143, 1144, 1145, 1146, 1147, 1148, 1149, 1150, 1151, 1152, 1153, 1154, 1172, 1173, 1174, 1175, 1176, 1177, 1196, 1197, 1198, 1199, 1200] (by decide +kernel) (by decide +kernel)
set_option maxRecDepth 20000 in
theorem gL_law_X10_rate : GoodIn wsL_law (wsV RL 120 RX10 yX10_rate wsX10_rate) := goodIn_app (goodIn_of _ (by decide +kernel)) ggL_law_X10_rate
set_option maxRecDepth 20000 in
theorem ggL_law_X11_rate : GoodIn wsL_law wsX11_rate := goodIn_r _ [1074, 201, 482, 166, 165, 1075, 1076, 1077, 1078, 1079, 1080, 204, 205, 5, 206, 487, 488, 489, 490, 491, 492, 493, 494, 547, 548, 549, 550, 575, 576, 577, 578, 1155, 1156, 1157, 1158, 1159, 1160, 1161, 1162, 1163, 1164, 1165, 1166, 1167, 1168, 1169, 1170, 1171] (by decide +kernel) (by decide +kernel)
set_option maxRecDepth 20000 in
theorem gL_law_X11_rate : GoodIn wsL_law (wsV RL 123 RX11 yX11_rate wsX11_rate) := goodIn_app (goodIn_of _ (by decide +kernel)) ggL_law_X11_rate
set_option maxRecDepth 20000 in
theorem ggL_law_X10_keep : GoodIn wsL_law wsX10_keep := goodIn_r _ [1084, 33, 37, 41, 861, 862, 2, 863, 864, 865, 866, 867, 45, 46, 1085, 1086, 1087, 44, 1088, 120, 122, 123, 124, 1089, 889, 890, 32, 891, 102, 884, 885, 886, 887, 892, 597, 598, 599, 515, 500, 501, 502, 99, 600, 601, 602, 893, 761, 762, 763, 101, 764, 741, 742, 152, 153, 154, 155, 103, 100, 156, 157, 158, 159, 1090, 1091, 1092, 36, 1093, 111, 107, 108, 110, 1094, 386, 387, 388, 1095, 800, 801, 802, 1096, 780, 781, 40, 782, 115, 563, 564, 565, 566, 1142, 1143, 1144, 1145, 1146, 1147, 1148, 1149, 1150, 1151, 1152, 1153, 1154, 1206, 1207, 1208, 1209, 1196, 1197, 1198, 1199, 1200, 1201, 1202, 1203, 1204, 1205] (by decide +kernel) (by decide +kernel)
set_option maxRecDepth 20000 in
theorem gL_law_X10_keep : GoodIn wsL_law (wsV RL 124 RX10 yX10_keep wsX10_keep) := goodIn_app (goodIn_of _ (by decide +kernel)) ggL_law_X10_keep
set_option maxRecDepth 20000 in
theorem ggL_law_X11_keep : GoodIn wsL_law wsX11_keep := goodIn_r _ [1100, 201, 167, 166, 168, 915, 916, 5, 917, 204, 205, 206, 575, 576, 577, 578, 491, 492, 493, 494, 165, 1155, 1156, 1157, 1158, 1159, 1160, 1161, 1162, 1163, 1164, 1165, 1166, 1167, 1168, 1169, 1170, 1171] (by decide +kernel) (by decide +kernel)
set_option maxRecDepth 20000 in
theorem gL_law_X11_keep : GoodIn wsL_law (wsV RL 127 RX11 yX11_keep wsX11_keep) := goodIn_app (goodIn_of _ (by decide +kernel)) ggL_law_X11_keep
