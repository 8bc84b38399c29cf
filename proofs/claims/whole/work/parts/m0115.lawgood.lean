set_option maxRecDepth 20000 in
theorem ggL_law_X10_two : GoodIn wsL_law wsX10_two := goodIn_r _ [836, 50, 33, 837, 838, 2, 839, 443, 444, 445, 446, 16, 136, 137, 138, 15, 139, 66, 840, 841, 842, 843, 45, 46, 844, 845, 846, 44, 847, 123, 848, 849, 850, 851, 119, 852, 853, 854, 49, 855, 128, 129, 856, 857, 858, 32, 859, 101, 100, 860, 861, 862, 863, 496, 481, 482, 483, 98, 151, 152, 153, 154, 102, 99, 155, 156, 157, 158, 864, 865, 866, 867, 868, 578, 579, 580, 581, 582, 583, 869, 737, 738, 739, 740, 717, 718, 870, 871, 872, 873, 497, 498, 499, 500, 874, 875, 503, 876, 877, 878, 549, 550, 551, 879, 880, 881, 882, 480, 883, 884, 885, 886, 1121, 1122, 1123, 1124, 1125, 1126, 1127, 1128, 1129, 1130, 1131, 1132, 1133, 1151, 1152, 1153, 1154, 1155, 1156, 1184, 1185, 1186, 1187, 1188, 1189, 1174, 1175, 1176, 1177, 1178] (by decide +kernel) (by decide +kernel)
set_option maxRecDepth 20000 in
theorem gL_law_X10_two : GoodIn wsL_law (wsV RL 96 RX10 yX10_two wsX10_two) := goodIn_app (goodIn_of _ (by decide +kernel)) ggL_law_X10_two
set_option maxRecDepth 20000 in
theorem ggL_law_X11_two : GoodIn wsL_law wsX11_two := goodIn_r _ [890, 200, 167, 168, 891, 892, 5, 893, 203, 204, 205, 468, 469, 470, 471, 472, 473, 474, 475, 164, 894, 895, 896, 897, 165, 166, 532, 533, 534, 535, 898, 899, 900, 901, 1134, 1135, 1136, 1137, 1138, 1139, 1140, 1141, 1142, 1143, 1144, 1145, 1146, 1147, 1148, 1149, 1150] (by decide +kernel) (by decide +kernel)
set_option maxRecDepth 20000 in
theorem gL_law_X11_two : GoodIn wsL_law (wsV RL 99 RX11 yX11_two wsX11_two) := goodIn_app (goodIn_of _ (by decide +kernel)) ggL_law_X11_two
set_option maxRecDepth 20000 in
theorem ggL_law_X10_between : GoodIn wsL_law wsX10_between := goodIn_r _ [905, 50, 33, 837, 838, 2, 839, 840, 841, 842, 843, 45, 46, 844, 845, 846, 44, 847, 123, 848, 849, 850, 851, 119, 852, 853, 854, 49, 855, 128, 129, 856, 857, 858, 32, 859, 101, 100, 860, 861, 862, 863, 496, 481, 482, 483, 98, 151, 152, 153, 154, 102, 99, 155, 156, 157, 158, 864, 865, 866, 867, 868, 578, 579, 580, 581, 582, 583, 869, 737, 738, 739, 740, 717, 718, 870, 871, 872, 873, 497, 498, 499, 500, 874, 875, 503, 876, 877, 878, 549, 550, 551, 906, 907, 908, 909, 910, 911, 545, 546, 547, 912, 913, 914, 915, 916, 1121, 1122, 1123, 1124, 1125, 1126, 1127, 1128, 1129, 1130, 1131, 1132, 1133, 1184, 1185, 1186, 1187, 1188, 1189, 1174, 1175, 1176, 1177, 1178] (by decide +kernel) (by decide +kernel)
set_option maxRecDepth 20000 in
theorem gL_law_X10_between : GoodIn wsL_law (wsV RL 100 RX10 yX10_between wsX10_between) := goodIn_app (goodIn_of _ (by decide +kernel)) ggL_law_X10_between
set_option maxRecDepth 20000 in
theorem ggL_law_X11_between : GoodIn wsL_law wsX11_between := goodIn_r _ [920, 200, 167, 169, 168, 891, 892, 5, 893, 203, 204, 205, 894, 895, 896, 897, 165, 166, 472, 473, 474, 475, 164, 532, 533, 534, 535, 898, 899, 900, 901, 556, 557, 558, 559, 921, 922, 923, 924, 925, 926, 1134, 1135, 1136, 1137, 1138, 1139, 1140, 1141, 1142, 1143, 1144, 1145, 1146, 1147, 1148, 1149, 1150] (by decide +kernel) (by decide +kernel)
set_option maxRecDepth 20000 in
theorem gL_law_X11_between : GoodIn wsL_law (wsV RL 103 RX11 yX11_between wsX11_between) := goodIn_app (goodIn_of _ (by decide +kernel)) ggL_law_X11_between
set_option maxRecDepth 20000 in
theorem ggL_law_X10_fewest : GoodIn wsL_law wsX10_fewest := goodIn_r _ [930, 33, 837, 838, 2, 839, 840, 841, 842, 843, 45, 46, 844, 845, 846, 44, 847, 123, 848, 849, 850, 851, 119, 931, 932, 49, 933, 934, 861, 862, 32, 863, 101, 935, 936, 937, 938, 149, 146, 150, 911, 545, 546, 547, 102, 912, 498, 499, 500, 99, 939, 502, 503, 504, 505, 506, 507, 1121, 1122, 1123, 1124, 1125, 1126, 1127, 1128, 1129, 1130, 1131, 1132, 1133, 1184, 1185, 1186, 1187, 1174, 1175, 1176, 1177, 1178] (by decide +kernel) (by decide +kernel)
set_option maxRecDepth 20000 in
theorem gL_law_X10_fewest : GoodIn wsL_law (wsV RL 104 RX10 yX10_fewest wsX10_fewest) := goodIn_app (goodIn_of _ (by decide +kernel)) ggL_law_X10_fewest
set_option maxRecDepth 20000 in
theorem ggL_law_X11_fewest : GoodIn wsL_law wsX11_fewest := goodIn_r _ [943, 200, 167, 171, 165, 166, 891, 892, 5, 893, 203, 204, 205, 556, 557, 558, 559, 472, 473, 474, 475, 164, 1134, 1135, 1136, 1137, 1138, 1139, 1140, 1141, 1142, 1143, 1144, 1145, 1146, 1147, 1148, 1149, 1150] (by decide +kernel) (by decide +kernel)
set_option maxRecDepth 20000 in
theorem gL_law_X11_fewest : GoodIn wsL_law (wsV RL 107 RX11 yX11_fewest wsX11_fewest) := goodIn_app (goodIn_of _ (by decide +kernel)) ggL_law_X11_fewest
set_option maxRecDepth 20000 in
theorem ggL_law_X10_best : GoodIn wsL_law wsX10_best := goodIn_r _ [947, 16, 29, 438, 136, 137, 138, 15, 139, 66, 676, 677, 678, 28, 679, 91, 588, 589, 590, 591, 90, 88, 89, 592, 593, 594, 595, 94, 596, 597, 598, 599, 600, 92, 93, 87, 601, 602, 603, 604, 605, 313, 314, 315, 61, 606, 502, 503, 504, 505, 506, 507, 607, 608, 609, 610, 611, 612, 613, 614, 62, 63, 347, 348, 349, 615, 616, 617, 618, 60, 619, 620, 621, 622, 623, 624, 625, 626, 627, 628, 629, 630, 631, 149, 146, 150, 632, 633, 634, 635, 65, 636, 582, 32, 583, 948, 949, 950, 951, 952, 953, 954, 955, 716, 717, 718, 581, 1121, 1122, 1123, 1124, 1125, 1126, 1127, 1128, 1129, 1130, 1131, 1132, 1133, 1151, 1152, 1153, 1154, 1155, 1156, 1166, 1167, 1168, 1169, 1170, 1171, 1172, 1173] (by decide +kernel) (by decide +kernel)
set_option maxRecDepth 20000 in
theorem gL_law_X10_best : GoodIn wsL_law (wsV RL 108 RX10 yX10_best wsX10_best) := goodIn_app (goodIn_of _ (by decide +kernel)) ggL_law_X10_best
set_option maxRecDepth 20000 in
theorem ggL_law_X11_best : GoodIn wsL_law wsX11_best := goodIn_r _ [959, 200, 463, 168, 169, 468, 469, 470, 5, 471, 472, 473, 474, 475, 164, 203, 204, 205, 692, 693, 694, 695, 652, 653, 654, 655, 556, 557, 558, 559, 528, 529, 530, 531, 656, 657, 658, 659, 660, 661, 662, 663, 664, 665, 666, 667, 696, 697, 698, 699, 1134, 1135, 1136, 1137, 1138, 1139, 1140, 1141, 1142, 1143, 1144, 1145, 1146, 1147, 1148, 1149, 1150] (by decide +kernel) (by decide +kernel)
set_option maxRecDepth 20000 in
theorem gL_law_X11_best : GoodIn wsL_law (wsV RL 111 RX11 yX11_best wsX11_best) := goodIn_app (goodIn_of _ (by decide +kernel)) ggL_law_X11_best
