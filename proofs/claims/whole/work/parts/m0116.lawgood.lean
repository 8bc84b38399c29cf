set_option maxRecDepth 20000 in
theorem ggL_law_X10_leaving : GoodIn wsL_law wsX10_leaving := goodIn_r _ [963, 16, 54, 33, 136, 137, 138, 15, 139, 66, 964, 965, 966, 53, 967, 134, 135, 968, 865, 866, 32, 867, 101, 860, 861, 862, 863, 868, 578, 579, 580, 496, 481, 482, 483, 98, 581, 582, 583, 869, 737, 738, 739, 100, 740, 717, 718, 151, 152, 153, 154, 102, 99, 155, 156, 157, 158, 969, 970, 971, 972, 973, 974, 975, 545, 546, 547, 976, 498, 499, 500, 977, 633, 634, 635, 65, 347, 348, 349, 978, 979, 980, 981, 512, 513, 514, 515, 516, 517, 518, 519, 982, 983, 984, 985, 986, 480, 987, 988, 989, 990, 991, 992, 993, 994, 1121, 1122, 1123, 1124, 1125, 1126, 1127, 1128, 1129, 1130, 1131, 1132, 1133, 1151, 1152, 1153, 1154, 1155, 1156, 1190, 1191, 1174, 1175, 1176, 1177, 1178] (by decide +kernel) (by decide +kernel)
set_option maxRecDepth 20000 in
theorem gL_law_X10_leaving : GoodIn wsL_law (wsV RL 112 RX10 yX10_leaving wsX10_leaving) := goodIn_app (goodIn_of _ (by decide +kernel)) ggL_law_X10_leaving
set_option maxRecDepth 20000 in
theorem ggL_law_X11_leaving : GoodIn wsL_law wsX11_leaving := goodIn_r _ [998, 200, 168, 165, 468, 469, 470, 5, 471, 472, 473, 474, 475, 164, 203, 204, 205, 999, 1000, 1001, 1002, 170, 556, 557, 558, 559, 524, 525, 526, 527, 528, 529, 530, 531, 532, 533, 534, 535, 1134, 1135, 1136, 1137, 1138, 1139, 1140, 1141, 1142, 1143, 1144, 1145, 1146, 1147, 1148, 1149, 1150] (by decide +kernel) (by decide +kernel)
set_option maxRecDepth 20000 in
theorem gL_law_X11_leaving : GoodIn wsL_law (wsV RL 115 RX11 yX11_leaving wsX11_leaving) := goodIn_app (goodIn_of _ (by decide +kernel)) ggL_law_X11_leaving
set_option maxRecDepth 20000 in
theorem ggL_law_X10_evening : GoodIn wsL_law wsX10_evening := goodIn_r _ [1006, 16, 41, 33, 136, 137, 138, 15, 139, 66, 731, 732, 733, 40, 734, 114, 735, 508, 509, 510, 32, 511, 496, 481, 482, 483, 101, 98, 512, 513, 514, 515, 100, 516, 517, 518, 519, 151, 152, 153, 154, 102, 99, 155, 156, 157, 158, 644, 645, 646, 647, 497, 498, 499, 500, 501, 502, 503, 504, 505, 506, 507, 1121, 1122, 1123, 1124, 1125, 1126, 1127, 1128, 1129, 1130, 1131, 1132, 1133, 1151, 1152, 1153, 1154, 1155, 1156, 1183, 1174, 1175, 1176, 1177, 1178] (by decide +kernel) (by decide +kernel)
set_option maxRecDepth 20000 in
theorem gL_law_X10_evening : GoodIn wsL_law (wsV RL 116 RX10 yX10_evening wsX10_evening) := goodIn_app (goodIn_of _ (by decide +kernel)) ggL_law_X10_evening
set_option maxRecDepth 20000 in
theorem ggL_law_X11_evening : GoodIn wsL_law wsX11_evening := goodIn_r _ [1010, 200, 165, 203, 204, 5, 205, 472, 473, 474, 475, 164, 745, 746, 747, 748, 749, 750, 524, 525, 526, 527, 528, 529, 530, 531, 532, 533, 534, 535, 668, 669, 670, 671, 1134, 1135, 1136, 1137, 1138, 1139, 1140, 1141, 1142, 1143, 1144, 1145, 1146, 1147, 1148, 1149, 1150] (by decide +kernel) (by decide +kernel)
set_option maxRecDepth 20000 in
theorem gL_law_X11_evening : GoodIn wsL_law (wsV RL 119 RX11 yX11_evening wsX11_evening) := goodIn_app (goodIn_of _ (by decide +kernel)) ggL_law_X11_evening
set_option maxRecDepth 20000 in
theorem ggL_law_X10_rate : GoodIn wsL_law wsX10_rate := goodIn_r _ [1014, 438, 443, 444, 445, 2, 446, 16, 136, 137, 138, 15, 139, 66, 1015, 1016, 1017, 1018, 55, 33, 480, 481, 482, 32, 483, 101, 98, 564, 498, 499, 500, 102, 99, 1019, 502, 503, 504, 505, 506, 507, 1020, 1021, 1022, 1023, 1024, 1025, 633, 634, 635, 65, 347, 348, 349, 1026, 1027, 1028, 1029, 1030, 1031, 1032, 1033, 1034, 60, 1035, 1036, 1037, 1038, 1039, 1040, 1041, 1042, 1043, 1044, 1045, 1046, 1047, 1048, 1049, 544, 545, 546, 547, 1121, 1122, 1123, 1124, 1125, 1126, 1127, 1128, 1129, 1130, 1131, 1132, 1133, 1151, 1152, 1153, 1154, 1155, 1156, 1174, 1175, 1176, 1177, 1178] (by decide +kernel) (by decide +kernel)
set_option maxRecDepth 20000 in
theorem gL_law_X10_rate : GoodIn wsL_law (wsV RL 120 RX10 yX10_rate wsX10_rate) := goodIn_app (goodIn_of _ (by decide +kernel)) ggL_law_X10_rate
set_option maxRecDepth 20000 in
theorem ggL_law_X11_rate : GoodIn wsL_law wsX11_rate := goodIn_r _ [1053, 200, 463, 165, 164, 1054, 1055, 1056, 1057, 1058, 1059, 203, 204, 5, 205, 468, 469, 470, 471, 472, 473, 474, 475, 528, 529, 530, 531, 556, 557, 558, 559, 1134, 1135, 1136, 1137, 1138, 1139, 1140, 1141, 1142, 1143, 1144, 1145, 1146, 1147, 1148, 1149, 1150] (by decide +kernel) (by decide +kernel)
set_option maxRecDepth 20000 in
theorem gL_law_X11_rate : GoodIn wsL_law (wsV RL 123 RX11 yX11_rate wsX11_rate) := goodIn_app (goodIn_of _ (by decide +kernel)) ggL_law_X11_rate
set_option maxRecDepth 20000 in
theorem ggL_law_X10_keep : GoodIn wsL_law wsX10_keep := goodIn_r _ [1063, 33, 37, 41, 837, 838, 2, 839, 840, 841, 842, 843, 45, 46, 1064, 1065, 1066, 44, 1067, 119, 121, 122, 123, 1068, 865, 866, 32, 867, 101, 860, 861, 862, 863, 868, 578, 579, 580, 496, 481, 482, 483, 98, 581, 582, 583, 869, 737, 738, 739, 100, 740, 717, 718, 151, 152, 153, 154, 102, 99, 155, 156, 157, 158, 1069, 1070, 1071, 36, 1072, 110, 106, 107, 109, 1073, 367, 368, 369, 1074, 776, 777, 778, 1075, 756, 757, 40, 758, 114, 544, 545, 546, 547, 1121, 1122, 1123, 1124, 1125, 1126, 1127, 1128, 1129, 1130, 1131, 1132, 1133, 1184, 1185, 1186, 1187, 1174, 1175, 1176, 1177, 1178, 1179, 1180, 1181, 1182, 1183] (by decide +kernel) (by decide +kernel)
set_option maxRecDepth 20000 in
theorem gL_law_X10_keep : GoodIn wsL_law (wsV RL 124 RX10 yX10_keep wsX10_keep) := goodIn_app (goodIn_of _ (by decide +kernel)) ggL_law_X10_keep
set_option maxRecDepth 20000 in
theorem ggL_law_X11_keep : GoodIn wsL_law wsX11_keep := goodIn_r _ [1079, 200, 166, 165, 167, 891, 892, 5, 893, 203, 204, 205, 556, 557, 558, 559, 472, 473, 474, 475, 164, 1134, 1135, 1136, 1137, 1138, 1139, 1140, 1141, 1142, 1143, 1144, 1145, 1146, 1147, 1148, 1149, 1150] (by decide +kernel) (by decide +kernel)
set_option maxRecDepth 20000 in
theorem gL_law_X11_keep : GoodIn wsL_law (wsV RL 127 RX11 yX11_keep wsX11_keep) := goodIn_app (goodIn_of _ (by decide +kernel)) ggL_law_X11_keep
