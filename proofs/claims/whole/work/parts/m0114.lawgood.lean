set_option maxRecDepth 20000 in
theorem ggL_law_X10_saw : GoodIn wsL_law wsX10_saw := goodIn_r _ [794, 37, 458, 459, 460, 2, 461, 462, 463, 464, 465, 16, 137, 138, 139, 15, 140, 66, 795, 796, 797, 36, 798, 111, 799, 800, 801, 802, 107, 108, 110, 803, 804, 805, 806, 1142, 1143, 1144, 1145, 1146, 1147, 1148, 1149, 1150, 1151, 1152, 1153, 1154, 1172, 1173, 1174, 1175, 1176, 1177, 1201, 1202, 1203, 1204] (by decide +kernel) (by decide +kernel)
set_option maxRecDepth 20000 in
theorem gL_law_X10_saw : GoodIn wsL_law (wsV RL 80 RX10 yX10_saw wsX10_saw) := goodIn_app (goodIn_of _ (by decide +kernel)) ggL_law_X10_saw
set_option maxRecDepth 20000 in
theorem ggL_law_X11_saw : GoodIn wsL_law wsX11_saw := goodIn_r _ [810, 201, 166, 483, 484, 485, 5, 486, 487, 488, 489, 490, 491, 492, 493, 494, 165, 204, 205, 206, 1155, 1156, 1157, 1158, 1159, 1160, 1161, 1162, 1163, 1164, 1165, 1166, 1167, 1168, 1169, 1170, 1171] (by decide +kernel) (by decide +kernel)
set_option maxRecDepth 20000 in
theorem gL_law_X11_saw : GoodIn wsL_law (wsV RL 83 RX11 yX11_saw wsX11_saw) := goodIn_app (goodIn_of _ (by decide +kernel)) ggL_law_X11_saw
set_option maxRecDepth 20000 in
theorem ggL_law_X10_forget : GoodIn wsL_law wsX10_forget := goodIn_r _ [814, 37, 803, 804, 805, 36, 806, 111, 385, 386, 387, 388, 1142, 1143, 1144, 1145, 1146, 1147, 1148, 1149, 1150, 1151, 1152, 1153, 1154, 1201, 1202, 1203, 1204] (by decide +kernel) (by decide +kernel)
set_option maxRecDepth 20000 in
theorem gL_law_X10_forget : GoodIn wsL_law (wsV RL 84 RX10 yX10_forget wsX10_forget) := goodIn_app (goodIn_of _ (by decide +kernel)) ggL_law_X10_forget
set_option maxRecDepth 20000 in
theorem ggL_law_X11_forget : GoodIn wsL_law wsX11_forget := goodIn_r _ [818, 201, 166, 1155, 1156, 1157, 1158, 1159, 1160, 1161, 1162, 1163, 1164, 1165, 1166, 1167, 1168, 1169, 1170, 1171] (by decide +kernel) (by decide +kernel)
set_option maxRecDepth 20000 in
theorem gL_law_X11_forget : GoodIn wsL_law (wsV RL 87 RX11 yX11_forget wsX11_forget) := goodIn_app (goodIn_of _ (by decide +kernel)) ggL_law_X11_forget
set_option maxRecDepth 20000 in
theorem ggL_law_X10_left : GoodIn wsL_law wsX10_left := goodIn_r _ [822, 29, 37, 823, 824, 825, 28, 826, 92, 88, 607, 608, 609, 610, 91, 89, 90, 611, 612, 613, 614, 95, 615, 138, 139, 15, 140, 66, 616, 617, 618, 619, 93, 94, 620, 621, 622, 623, 624, 346, 347, 348, 61, 625, 521, 522, 523, 524, 525, 526, 626, 627, 628, 629, 630, 631, 632, 633, 62, 63, 338, 339, 340, 634, 635, 636, 637, 638, 639, 640, 641, 60, 642, 643, 644, 645, 646, 647, 648, 649, 650, 651, 652, 653, 654, 150, 147, 151, 655, 656, 657, 658, 659, 475, 476, 477, 65, 660, 601, 32, 602, 827, 828, 829, 36, 830, 111, 107, 108, 110, 831, 741, 742, 600, 1142, 1143, 1144, 1145, 1146, 1147, 1148, 1149, 1150, 1151, 1152, 1153, 1154, 1188, 1189, 1190, 1191, 1192, 1193, 1194, 1195, 1172, 1173, 1174, 1175, 1176, 1177, 1201, 1202, 1203, 1204] (by decide +kernel) (by decide +kernel)
set_option maxRecDepth 20000 in
theorem gL_law_X10_left : GoodIn wsL_law (wsV RL 88 RX10 yX10_left wsX10_left) := goodIn_app (goodIn_of _ (by decide +kernel)) ggL_law_X10_left
set_option maxRecDepth 20000 in
theorem ggL_law_X11_left : GoodIn wsL_law wsX11_left := goodIn_r _ [835, 201, 836, 837, 838, 5, 839, 169, 716, 717, 718, 719, 840, 841, 842, 843, 166, 676, 677, 678, 679, 165, 575, 576, 577, 578, 491, 492, 493, 494, 547, 548, 549, 550, 680, 681, 682, 683, 684, 685, 686, 687, 720, 721, 722, 723, 1155, 1156, 1157, 1158, 1159, 1160, 1161, 1162, 1163, 1164, 1165, 1166, 1167, 1168, 1169, 1170, 1171] (by decide +kernel) (by decide +kernel)
set_option maxRecDepth 20000 in
theorem gL_law_X11_left : GoodIn wsL_law (wsV RL 91 RX11 yX11_left wsX11_left) := goodIn_app (goodIn_of _ (by decide +kernel)) ggL_law_X11_left
set_option maxRecDepth 20000 in
theorem ggL_law_X10_sure : GoodIn wsL_law wsX10_sure := goodIn_r _ [847, 29, 37, 458, 459, 460, 2, 461, 462, 463, 464, 465, 16, 137, 138, 139, 15, 140, 66, 848, 849, 850, 28, 851, 92, 88, 607, 608, 609, 610, 91, 89, 90, 611, 612, 613, 614, 95, 615, 616, 617, 618, 619, 93, 94, 620, 621, 622, 623, 624, 346, 347, 348, 61, 625, 521, 522, 523, 524, 525, 526, 626, 627, 628, 629, 630, 631, 632, 633, 62, 63, 338, 339, 340, 634, 635, 636, 637, 638, 639, 640, 641, 60, 642, 643, 644, 645, 646, 647, 648, 649, 650, 651, 652, 653, 654, 150, 147, 151, 655, 656, 657, 658, 659, 475, 476, 477, 65, 660, 601, 32, 602, 827, 828, 829, 36, 830, 111, 107, 108, 110, 831, 741, 742, 600, 852, 1142, 1143, 1144, 1145, 1146, 1147, 1148, 1149, 1150, 1151, 1152, 1153, 1154, 1172, 1173, 1174, 1175, 1176, 1177, 1188, 1189, 1190, 1191, 1192, 1193, 1194, 1195, 1201, 1202, 1203, 1204] (by decide +kernel) (by decide +kernel)
set_option maxRecDepth 20000 in
theorem gL_law_X10_sure : GoodIn wsL_law (wsV RL 92 RX10 yX10_sure wsX10_sure) := goodIn_app (goodIn_of _ (by decide +kernel)) ggL_law_X10_sure
set_option maxRecDepth 20000 in
theorem ggL_law_X11_sure : GoodIn wsL_law wsX11_sure := goodIn_r _ [856, 201, 483, 484, 485, 5, 486, 487, 488, 489, 490, 491, 492, 493, 494, 165, 204, 205, 206, 836, 837, 838, 839, 169, 716, 717, 718, 719, 840, 841, 842, 843, 166, 676, 677, 678, 679, 575, 576, 577, 578, 547, 548, 549, 550, 680, 681, 682, 683, 684, 685, 686, 687, 720, 721, 722, 723, 1155, 1156, 1157, 1158, 1159, 1160, 1161, 1162, 1163, 1164, 1165, 1166, 1167, 1168, 1169, 1170, 1171] (by decide +kernel) (by decide +kernel)
set_option maxRecDepth 20000 in
theorem gL_law_X11_sure : GoodIn wsL_law (wsV RL 95 RX11 yX11_sure wsX11_sure) := goodIn_app (goodIn_of _ (by decide +kernel)) ggL_law_X11_sure
