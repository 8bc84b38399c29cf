set_option maxRecDepth 20000 in
theorem ggL_law_X10_two : GoodIn wsL_law wsX10_two := goodIn_r _ [860, 50, 33, 861, 862, 2, 863, 462, 463, 464, 465, 16, 137, 138, 139, 15, 140, 66, 864, 865, 866, 867, 45, 46, 868, 869, 870, 44, 871, 124, 872, 873, 874, 875, 120, 876, 877, 878, 49, 879, 129, 130, 880, 881, 882, 32, 883, 102, 101, 884, 885, 886, 887, 515, 500, 501, 502, 99, 152, 153, 154, 155, 103, 100, 156, 157, 158, 159, 888, 889, 890, 891, 892, 597, 598, 599, 600, 601, 602, 893, 761, 762, 763, 764, 741, 742, 894, 895, 896, 897, 516, 517, 518, 519, 898, 899, 522, 900, 901, 902, 568, 569, 570, 903, 904, 905, 906, 499, 907, 908, 909, 910, 1142, 1143, 1144, 1145, 1146, 1147, 1148, 1149, 1150, 1151, 1152, 1153, 1154, 1172, 1173, 1174, 1175, 1176, 1177, 1206, 1207, 1208, 1209, 1210, 1211, 1196, 1197, 1198, 1199, 1200] (by decide +kernel) (by decide +kernel)
set_option maxRecDepth 20000 in
theorem gL_law_X10_two : GoodIn wsL_law (wsV RL 96 RX10 yX10_two wsX10_two) := goodIn_app (goodIn_of _ (by decide +kernel)) ggL_law_X10_two
set_option maxRecDepth 20000 in
theorem ggL_law_X11_two : GoodIn wsL_law wsX11_two := goodIn_r _ [914, 201, 168, 169, 915, 916, 5, 917, 204, 205, 206, 487, 488, 489, 490, 491, 492, 493, 494, 165, 918, 919, 920, 921, 166, 167, 551, 552, 553, 554, 922, 923, 924, 925, 1155, 1156, 1157, 1158, 1159, 1160, 1161, 1162, 1163, 1164, 1165, 1166, 1167, 1168, 1169, 1170, 1171] (by decide +kernel) (by decide +kernel)
set_option maxRecDepth 20000 in
theorem gL_law_X11_two : GoodIn wsL_law (wsV RL 99 RX11 yX11_two wsX11_two) := goodIn_app (goodIn_of _ (by decide +kernel)) ggL_law_X11_two
set_option maxRecDepth 20000 in
theorem ggL_law_X10_between : GoodIn wsL_law wsX10_between := goodIn_r _ [929, 50, 33, 861, 862, 2, 863, 864, 865, 866, 867, 45, 46, 868, 869, 870, 44, 871, 124, 872, 873, 874, 875, 120, 876, 877, 878, 49, 879, 129, 130, 880, 881, 882, 32, 883, 102, 101, 884, 885, 886, 887, 515, 500, 501, 502, 99, 152, 153, 154, 155, 103, 100, 156, 157, 158, 159, 888, 889, 890, 891, 892, 597, 598, 599, 600, 601, 602, 893, 761, 762, 763, 764, 741, 742, 894, 895, 896, 897, 516, 517, 518, 519, 898, 899, 522, 900, 901, 902, 568, 569, 570, 930, 931, 932, 933, 934, 935, 564, 565, 566, 936, 937, 938, 939, 940, 1142, 1143, 1144, 1145, 1146, 1147, 1148, 1149, 1150, 1151, 1152, 1153, 1154, 1206, 1207, 1208, 1209, 1210, 1211, 1196, 1197, 1198, 1199, 1200] (by decide +kernel) (by decide +kernel)
set_option maxRecDepth 20000 in
theorem gL_law_X10_between : GoodIn wsL_law (wsV RL 100 RX10 yX10_between wsX10_between) := goodIn_app (goodIn_of _ (by decide +kernel)) ggL_law_X10_between
set_option maxRecDepth 20000 in
theorem ggL_law_X11_between : GoodIn wsL_law wsX11_between := goodIn_r _ [944, 201, 168, 170, 169, 915, 916, 5, 917, 204, 205, 206, 918, 919, 920, 921, 166, 167, 491, 492, 493, 494, 165, 551, 552, 553, 554, 922, 923, 924, 925, 575, 576, 577, 578, 945, 946, 947, 948, 949, 950, 1155, 1156, 1157, 1158, 1159, 1160, 1161, 1162, 1163, 1164, 1165, 1166, 1167, 1168, 1169, 1170, 1171] (by decide +kernel) (by decide +kernel)
set_option maxRecDepth 20000 in
theorem gL_law_X11_between : GoodIn wsL_law (wsV RL 103 RX11 yX11_between wsX11_between) := goodIn_app (goodIn_of _ (by decide +kernel)) ggL_law_X11_between
set_option maxRecDepth 20000 in
theorem ggL_law_X10_fewest : GoodIn wsL_law wsX10_fewest := goodIn_r _ [954, 33, 861, 862, 2, 863, 864, 865, 866, 867, 45, 46, 868, 869, 870, 44, 871, 124, 872, 873, 874, 875, 120, 955, 956, 49, 957, 958, 885, 886, 32, 887, 102, 959, 960, 961, 962, 150, 147, 151, 935, 564, 565, 566, 103, 936, 517, 518, 519, 100, 963, 521, 522, 523, 524, 525, 526, 1142, 1143, 1144, 1145, 1146, 1147, 1148, 1149, 1150, 1151, 1152, 1153, 1154, 1206, 1207, 1208, 1209, 1196, 1197, 1198, 1199, 1200] (by decide +kernel) (by decide +kernel)
set_option maxRecDepth 20000 in
theorem gL_law_X10_fewest : GoodIn wsL_law (wsV RL 104 RX10 yX10_fewest wsX10_fewest) := goodIn_app (goodIn_of _ (by decide +kernel)) ggL_law_X10_fewest
set_option maxRecDepth 20000 in
theorem ggL_law_X11_fewest : GoodIn wsL_law wsX11_fewest := goodIn_r _ [967, 201, 168, 172, 166, 167, 915, 916, 5, 917, 204, 205, 206, 575, 576, 577, 578, 491, 492, 493, 494, 165, 1155, 1156, 1157, 1158, 1159, 1160, 1161, 1162, 1163, 1164, 1165, 1166, 1167, 1168, 1169, 1170, 1171] (by decide +kernel) (by decide +kernel)
set_option maxRecDepth 20000 in
theorem gL_law_X11_fewest : GoodIn wsL_law (wsV RL 107 RX11 yX11_fewest wsX11_fewest) := goodIn_app (goodIn_of _ (by decide +kernel)) ggL_law_X11_fewest
set_option maxRecDepth 20000 in
theorem ggL_law_X10_best : GoodIn wsL_law wsX10_best := goodIn_r _ [971, 16, 29, 457, 137, 138, 139, 15, 140, 66, 700, 701, 702, 28, 703, 92, 607, 608, 609, 610, 91, 89, 90, 611, 612, 613, 614, 95, 615, 616, 617, 618, 619, 93, 94, 88, 620, 621, 622, 623, 624, 346, 347, 348, 61, 625, 521, 522, 523, 524, 525, 526, 626, 627, 628, 629, 630, 631, 632, 633, 62, 63, 338, 339, 340, 634, 635, 636, 637, 638, 639, 640, 641, 60, 642, 643, 644, 645, 646, 647, 648, 649, 650, 651, 652, 653, 654, 150, 147, 151, 655, 656, 657, 658, 659, 475, 476, 477, 65, 660, 601, 32, 602, 972, 973, 974, 975, 976, 977, 978, 979, 740, 741, 742, 600, 1142, 1143, 1144, 1145, 1146, 1147, 1148, 1149, 1150, 1151, 1152, 1153, 1154, 1172, 1173, 1174, 1175, 1176, 1177, 1188, 1189, 1190, 1191, 1192, 1193, 1194, 1195] (by decide +kernel) (by decide +kernel)
set_option maxRecDepth 20000 in
theorem gL_law_X10_best : GoodIn wsL_law (wsV RL 108 RX10 yX10_best wsX10_best) := goodIn_app (goodIn_of _ (by decide +kernel)) ggL_law_X10_best
set_option maxRecDepth 20000 in
theorem ggL_law_X11_best : GoodIn wsL_law wsX11_best := goodIn_r _ [983, 201, 482, 169, 170, 487, 488, 489, 5, 490, 491, 492, 493, 494, 165, 204, 205, 206, 716, 717, 718, 719, 676, 677, 678, 679, 575, 576, 577, 578, 547, 548, 549, 550, 680, 681, 682, 683, 684, 685, 686, 687, 688, 689, 690, 691, 720, 721, 722, 723, 1155, 1156, 1157, 1158, 1159, 1160, 1161, 1162, 1163, 1164, 1165, 1166, 1167, 1168, 1169, 1170, 1171] (by decide +kernel) (by decide +kernel)
set_option maxRecDepth 20000 in
theorem gL_law_X11_best : GoodIn wsL_law (wsV RL 111 RX11 yX11_best wsX11_best) := goodIn_app (goodIn_of _ (by decide +kernel)) ggL_law_X11_best
