set_option maxRecDepth 20000 in
theorem ggL_law_X10_rank : GoodIn wsL_law wsX10_rank := goodIn_r _ [703, 29, 33, 577, 578, 579, 32, 580, 101, 496, 481, 482, 483, 98, 581, 582, 583, 584, 585, 586, 28, 587, 91, 87, 588, 589, 590, 591, 90, 88, 89, 592, 593, 594, 595, 94, 596, 137, 138, 15, 139, 66, 597, 598, 599, 600, 92, 93, 601, 602, 603, 604, 605, 313, 314, 315, 61, 606, 502, 503, 504, 505, 506, 507, 607, 608, 609, 610, 611, 612, 613, 614, 62, 63, 347, 348, 349, 615, 616, 617, 618, 60, 619, 620, 621, 622, 623, 624, 625, 626, 627, 628, 629, 630, 631, 149, 146, 150, 632, 633, 634, 635, 65, 636, 1121, 1122, 1123, 1124, 1125, 1126, 1127, 1128, 1129, 1130, 1131, 1132, 1133, 1174, 1175, 1176, 1177, 1178, 1166, 1167, 1168, 1169, 1170, 1171, 1172, 1173, 1151, 1152, 1153, 1154, 1155, 1156] (by decide +kernel) (by decide +kernel)
set_option maxRecDepth 20000 in
theorem gL_law_X10_rank : GoodIn wsL_law (wsV RL 64 RX10 yX10_rank wsX10_rank) := goodIn_app (goodIn_of _ (by decide +kernel)) ggL_law_X10_rank
set_option maxRecDepth 20000 in
theorem ggL_law_X11_rank : GoodIn wsL_law wsX11_rank := goodIn_r _ [707, 200, 165, 168, 652, 653, 654, 5, 655, 164, 556, 557, 558, 559, 472, 473, 474, 475, 528, 529, 530, 531, 656, 657, 658, 659, 660, 661, 662, 663, 692, 693, 694, 695, 696, 697, 698, 699, 1134, 1135, 1136, 1137, 1138, 1139, 1140, 1141, 1142, 1143, 1144, 1145, 1146, 1147, 1148, 1149, 1150] (by decide +kernel) (by decide +kernel)
set_option maxRecDepth 20000 in
theorem gL_law_X11_rank : GoodIn wsL_law (wsV RL 67 RX11 yX11_rank wsX11_rank) := goodIn_app (goodIn_of _ (by decide +kernel)) ggL_law_X11_rank
set_option maxRecDepth 20000 in
theorem ggL_law_X10_nth : GoodIn wsL_law wsX10_nth := goodIn_r _ [711, 29, 443, 444, 445, 2, 446, 16, 136, 137, 138, 15, 139, 66, 676, 677, 678, 28, 679, 91, 588, 589, 590, 591, 90, 88, 89, 592, 593, 594, 595, 94, 596, 597, 598, 599, 600, 92, 93, 87, 601, 602, 603, 604, 605, 313, 314, 315, 61, 606, 502, 503, 504, 505, 506, 507, 607, 608, 609, 610, 611, 612, 613, 614, 62, 63, 347, 348, 349, 615, 616, 617, 618, 60, 619, 620, 621, 622, 623, 624, 625, 626, 627, 628, 629, 630, 631, 149, 146, 150, 632, 633, 634, 635, 65, 636, 582, 32, 583, 712, 713, 714, 715, 716, 717, 718, 581, 1121, 1122, 1123, 1124, 1125, 1126, 1127, 1128, 1129, 1130, 1131, 1132, 1133, 1151, 1152, 1153, 1154, 1155, 1156, 1166, 1167, 1168, 1169, 1170, 1171, 1172, 1173] (by decide +kernel) (by decide +kernel)
set_option maxRecDepth 20000 in
theorem gL_law_X10_nth : GoodIn wsL_law (wsV RL 68 RX10 yX10_nth wsX10_nth) := goodIn_app (goodIn_of _ (by decide +kernel)) ggL_law_X10_nth
set_option maxRecDepth 20000 in
theorem ggL_law_X11_nth : GoodIn wsL_law wsX11_nth := goodIn_r _ [722, 200, 168, 468, 469, 470, 5, 471, 472, 473, 474, 475, 164, 203, 204, 205, 723, 724, 725, 726, 692, 693, 694, 695, 652, 653, 654, 655, 556, 557, 558, 559, 528, 529, 530, 531, 656, 657, 658, 659, 660, 661, 662, 663, 696, 697, 698, 699, 1134, 1135, 1136, 1137, 1138, 1139, 1140, 1141, 1142, 1143, 1144, 1145, 1146, 1147, 1148, 1149, 1150] (by decide +kernel) (by decide +kernel)
set_option maxRecDepth 20000 in
theorem gL_law_X11_nth : GoodIn wsL_law (wsV RL 71 RX11 yX11_nth wsX11_nth) := goodIn_app (goodIn_of _ (by decide +kernel)) ggL_law_X11_nth
set_option maxRecDepth 20000 in
theorem ggL_law_X10_draw : GoodIn wsL_law wsX10_draw := goodIn_r _ [730, 29, 41, 33, 676, 677, 678, 28, 679, 91, 588, 589, 590, 591, 90, 88, 89, 592, 593, 594, 595, 94, 596, 137, 138, 15, 139, 66, 597, 598, 599, 600, 92, 93, 87, 601, 602, 603, 604, 605, 313, 314, 315, 61, 606, 502, 503, 504, 505, 506, 507, 607, 608, 609, 610, 611, 612, 613, 614, 62, 63, 347, 348, 349, 615, 616, 617, 618, 60, 619, 620, 621, 622, 623, 624, 625, 626, 627, 628, 629, 630, 631, 149, 146, 150, 632, 633, 634, 635, 65, 636, 582, 32, 583, 731, 732, 733, 40, 734, 114, 735, 712, 713, 714, 715, 736, 737, 738, 739, 101, 100, 740, 717, 718, 581, 151, 152, 153, 154, 102, 99, 98, 155, 156, 157, 158, 1121, 1122, 1123, 1124, 1125, 1126, 1127, 1128, 1129, 1130, 1131, 1132, 1133, 1166, 1167, 1168, 1169, 1170, 1171, 1172, 1173, 1151, 1152, 1153, 1154, 1155, 1156, 1183, 1174, 1175, 1176, 1177, 1178] (by decide +kernel) (by decide +kernel)
set_option maxRecDepth 20000 in
theorem gL_law_X10_draw : GoodIn wsL_law (wsV RL 72 RX10 yX10_draw wsX10_draw) := goodIn_app (goodIn_of _ (by decide +kernel)) ggL_law_X10_draw
set_option maxRecDepth 20000 in
theorem ggL_law_X11_draw : GoodIn wsL_law wsX11_draw := goodIn_r _ [744, 200, 165, 168, 688, 689, 690, 5, 691, 692, 693, 694, 695, 556, 557, 558, 559, 472, 473, 474, 475, 164, 652, 653, 654, 655, 528, 529, 530, 531, 656, 657, 658, 659, 660, 661, 662, 663, 696, 697, 698, 699, 745, 746, 747, 748, 749, 750, 723, 724, 725, 726, 1134, 1135, 1136, 1137, 1138, 1139, 1140, 1141, 1142, 1143, 1144, 1145, 1146, 1147, 1148, 1149, 1150] (by decide +kernel) (by decide +kernel)
set_option maxRecDepth 20000 in
theorem gL_law_X11_draw : GoodIn wsL_law (wsV RL 75 RX11 yX11_draw wsX11_draw) := goodIn_app (goodIn_of _ (by decide +kernel)) ggL_law_X11_draw
set_option maxRecDepth 20000 in
theorem ggL_law_X10_lot : GoodIn wsL_law wsX10_lot := goodIn_r _ [754, 41, 755, 756, 757, 40, 758, 114, 759, 760, 761, 762, 1121, 1122, 1123, 1124, 1125, 1126, 1127, 1128, 1129, 1130, 1131, 1132, 1133, 1183] (by decide +kernel) (by decide +kernel)
set_option maxRecDepth 20000 in
theorem gL_law_X10_lot : GoodIn wsL_law (wsV RL 76 RX10 yX10_lot wsX10_lot) := goodIn_app (goodIn_of _ (by decide +kernel)) ggL_law_X10_lot
set_option maxRecDepth 20000 in
theorem ggL_law_X11_lot : GoodIn wsL_law wsX11_lot := goodIn_r _ [766, 200, 165, 1134, 1135, 1136, 1137, 1138, 1139, 1140, 1141, 1142, 1143, 1144, 1145, 1146, 1147, 1148, 1149, 1150] (by decide +kernel) (by decide +kernel)
set_option maxRecDepth 20000 in
theorem gL_law_X11_lot : GoodIn wsL_law (wsV RL 79 RX11 yX11_lot wsX11_lot) := goodIn_app (goodIn_of _ (by decide +kernel)) ggL_law_X11_lot
