set_option maxRecDepth 20000 in
theorem ggL_law_X10_rank : GoodIn wsL_law wsX10_rank := goodIn_r _ [727, 29, 33, 596, 597, 598, 32, 599, 102, 515, 500, 501, 502, 99, 600, 601, 602, 603, 604, 605, 28, 606, 92, 88, 607, 608, 609, 610, 91, 89, 90, 611, 612, 613, 614, 95, 615, 138, 139, 15, 140, 66, 616, 617, 618, 619, 93, 94, 620, 621, 622, 623, 624, 346, 347, 348, 61, 625, 521, 522, 523, 524, 525, 526, 626, 627, 628, 629, 630, 631, 632, 633, 62, 63, 338, 339, 340, 634, 635, 636, 637, 638, 639, 640, 641, 60, 642, 643, 644, 645, 646, 647, 648, 649, 650, 651, 652, 653, 654, 150, 147, 151, 655, 656, 657, 658, 659, 475, 476, 477, 65, 660, 1142, 1143, 1144, 1145, 1146, 1147, 1148, 1149, 1150, 1151, 1152, 1153, 1154, 1196, 1197, 1198, 1199, 1200, 1188, 1189, 1190, 1191, 1192, 1193, 1194, 1195, 1172, 1173, 1174, 1175, 1176, 1177] (by decide +kernel) (by decide +kernel)
set_option maxRecDepth 20000 in
theorem gL_law_X10_rank : GoodIn wsL_law (wsV RL 64 RX10 yX10_rank wsX10_rank) := goodIn_app (goodIn_of _ (by decide +kernel)) ggL_law_X10_rank
set_option maxRecDepth 20000 in
theorem ggL_law_X11_rank : GoodIn wsL_law wsX11_rank := goodIn_r _ [731, 201, 166, 169, 676, 677, 678, 5, 679, 165, 575, 576, 577, 578, 491, 492, 493, 494, 547, 548, 549, 550, 680, 681, 682, 683, 684, 685, 686, 687, 716, 717, 718, 719, 720, 721, 722, 723, 1155, 1156, 1157, 1158, 1159, 1160, 1161, 1162, 1163, 1164, 1165, 1166, 1167, 1168, 1169, 1170, 1171] (by decide +kernel) (by decide +kernel)
set_option maxRecDepth 20000 in
theorem gL_law_X11_rank : GoodIn wsL_law (wsV RL 67 RX11 yX11_rank wsX11_rank) := goodIn_app (goodIn_of _ (by decide +kernel)) ggL_law_X11_rank
set_option maxRecDepth 20000 in
theorem ggL_law_X10_nth : GoodIn wsL_law wsX10_nth := goodIn_r _ [735, 29, 462, 463, 464, 2, 465, 16, 137, 138, 139, 15, 140, 66, 700, 701, 702, 28, 703, 92, 607, 608, 609, 610, 91, 89, 90, 611, 612, 613, 614, 95, 615, 616, 617, 618, 619, 93, 94, 88, 620, 621, 622, 623, 624, 346, 347, 348, 61, 625, 521, 522, 523, 524, 525, 526, 626, 627, 628, 629, 630, 631, 632, 633, 62, 63, 338, 339, 340, 634, 635, 636, 637, 638, 639, 640, 641, 60, 642, 643, 644, 645, 646, 647, 648, 649, 650, 651, 652, 653, 654, 150, 147, 151, 655, 656, 657, 658, 659, 475, 476, 477, 65, 660, 601, 32, 602, 736, 737, 738, 739, 740, 741, 742, 600, 1142, 1143, 1144, 1145, 1146, 1147, 1148, 1149, 1150, 1151, 1152, 1153, 1154, 1172, 1173, 1174, 1175, 1176, 1177, 1188, 1189, 1190, 1191, 1192, 1193, 1194, 1195] (by decide +kernel) (by decide +kernel)
set_option maxRecDepth 20000 in
theorem gL_law_X10_nth : GoodIn wsL_law (wsV RL 68 RX10 yX10_nth wsX10_nth) := goodIn_app (goodIn_of _ (by decide +kernel)) ggL_law_X10_nth
set_option maxRecDepth 20000 in
theorem ggL_law_X11_nth : GoodIn wsL_law wsX11_nth := goodIn_r _ [746, 201, 169, 487, 488, 489, 5, 490, 491, 492, 493, 494, 165, 204, 205, 206, 747, 748, 749, 750, 716, 717, 718, 719, 676, 677, 678, 679, 575, 576, 577, 578, 547, 548, 549, 550, 680, 681, 682, 683, 684, 685, 686, 687, 720, 721, 722, 723, 1155, 1156, 1157, 1158, 1159, 1160, 1161, 1162, 1163, 1164, 1165, 1166, 1167, 1168, 1169, 1170, 1171] (by decide +kernel) (by decide +kernel)
set_option maxRecDepth 20000 in
theorem gL_law_X11_nth : GoodIn wsL_law (wsV RL 71 RX11 yX11_nth wsX11_nth) := goodIn_app (goodIn_of _ (by decide +kernel)) ggL_law_X11_nth
set_option maxRecDepth 20000 in
theorem ggL_law_X10_draw : GoodIn wsL_law wsX10_draw := goodIn_r _ [754, 29, 41, 33, 700, 701, 702, 28, 703, 92, 607, 608, 609, 610, 91, 89, 90, 611, 612, 613, 614, 95, 615, 138, 139, 15, 140, 66, 616, 617, 618, 619, 93, 94, 88, 620, 621, 622, 623, 624, 346, 347, 348, 61, 625, 521, 522, 523, 524, 525, 526, 626, 627, 628, 629, 630, 631, 632, 633, 62, 63, 338, 339, 340, 634, 635, 636, 637, 638, 639, 640, 641, 60, 642, 643, 644, 645, 646, 647, 648, 649, 650, 651, 652, 653, 654, 150, 147, 151, 655, 656, 657, 658, 659, 475, 476, 477, 65, 660, 601, 32, 602, 755, 756, 757, 40, 758, 115, 759, 736, 737, 738, 739, 760, 761, 762, 763, 102, 101, 764, 741, 742, 600, 152, 153, 154, 155, 103, 100, 99, 156, 157, 158, 159, 1142, 1143, 1144, 1145, 1146, 1147, 1148, 1149, 1150, 1151, 1152, 1153, 1154, 1188, 1189, 1190, 1191, 1192, 1193, 1194, 1195, 1172, 1173, 1174, 1175, 1176, 1177, 1205, 1196, 1197, 1198, 1199, 1200] (by decide +kernel) (by decide +kernel)
set_option maxRecDepth 20000 in
theorem gL_law_X10_draw : GoodIn wsL_law (wsV RL 72 RX10 yX10_draw wsX10_draw) := goodIn_app (goodIn_of _ (by decide +kernel)) ggL_law_X10_draw
set_option maxRecDepth 20000 in
theorem ggL_law_X11_draw : GoodIn wsL_law wsX11_draw := goodIn_r _ [768, 201, 166, 169, 712, 713, 714, 5, 715, 716, 717, 718, 719, 575, 576, 577, 578, 491, 492, 493, 494, 165, 676, 677, 678, 679, 547, 548, 549, 550, 680, 681, 682, 683, 684, 685, 686, 687, 720, 721, 722, 723, 769, 770, 771, 772, 773, 774, 747, 748, 749, 750, 1155, 1156, 1157, 1158, 1159, 1160, 1161, 1162, 1163, 1164, 1165, 1166, 1167, 1168, 1169, 1170, 1171] (by decide +kernel) (by decide +kernel)
set_option maxRecDepth 20000 in
theorem gL_law_X11_draw : GoodIn wsL_law (wsV RL 75 RX11 yX11_draw wsX11_draw) := goodIn_app (goodIn_of _ (by decide +kernel)) ggL_law_X11_draw
set_option maxRecDepth 20000 in
theorem ggL_law_X10_lot : GoodIn wsL_law wsX10_lot := goodIn_r _ [778, 41, 779, 780, 781, 40, 782, 115, 783, 784, 785, 786, 1142, 1143, 1144, 1145, 1146, 1147, 1148, 1149, 1150, 1151, 1152, 1153, 1154, 1205] (by decide +kernel) (by decide +kernel)
set_option maxRecDepth 20000 in
theorem gL_law_X10_lot : GoodIn wsL_law (wsV RL 76 RX10 yX10_lot wsX10_lot) := goodIn_app (goodIn_of _ (by decide +kernel)) ggL_law_X10_lot
set_option maxRecDepth 20000 in
theorem ggL_law_X11_lot : GoodIn wsL_law wsX11_lot := goodIn_r _ [790, 201, 166, 1155, 1156, 1157, 1158, 1159, 1160, 1161, 1162, 1163, 1164, 1165, 1166, 1167, 1168, 1169, 1170, 1171] (by decide +kernel) (by decide +kernel)
set_option maxRecDepth 20000 in
theorem gL_law_X11_lot : GoodIn wsL_law (wsV RL 79 RX11 yX11_lot wsX11_lot) := goodIn_app (goodIn_of _ (by decide +kernel)) ggL_law_X11_lot
