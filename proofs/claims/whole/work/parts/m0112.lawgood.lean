set_option maxRecDepth 20000 in
theorem ggL_law_X10_join : GoodIn wsL_law wsX10_join := goodIn_r _ [558, 33, 559, 560, 561, 2, 562, 563, 564, 565, 32, 566, 103, 567, 568, 569, 570, 102, 101, 99, 152, 153, 154, 155, 100, 156, 157, 158, 159, 1142, 1143, 1144, 1145, 1146, 1147, 1148, 1149, 1150, 1151, 1152, 1153, 1154, 1196, 1197, 1198, 1199, 1200] (by decide +kernel) (by decide +kernel)
set_option maxRecDepth 20000 in
theorem gL_law_X10_join : GoodIn wsL_law (wsV RL 48 RX10 yX10_join wsX10_join) := goodIn_app (goodIn_of _ (by decide +kernel)) ggL_law_X10_join
set_option maxRecDepth 20000 in
theorem ggL_law_X11_join : GoodIn wsL_law wsX11_join := goodIn_r _ [574, 201, 166, 575, 576, 577, 5, 578, 491, 492, 493, 494, 165, 204, 205, 206, 551, 552, 553, 554, 1155, 1156, 1157, 1158, 1159, 1160, 1161, 1162, 1163, 1164, 1165, 1166, 1167, 1168, 1169, 1170, 1171] (by decide +kernel) (by decide +kernel)
set_option maxRecDepth 20000 in
theorem gL_law_X11_join : GoodIn wsL_law (wsV RL 51 RX11 yX11_join wsX11_join) := goodIn_app (goodIn_of _ (by decide +kernel)) ggL_law_X11_join
set_option maxRecDepth 20000 in
theorem ggL_law_X10_part : GoodIn wsL_law wsX10_part := goodIn_r _ [582, 33, 559, 560, 561, 2, 562, 563, 564, 565, 32, 566, 103, 583, 517, 518, 519, 100, 584, 585, 586, 587, 102, 101, 99, 152, 153, 154, 155, 156, 157, 158, 159, 1142, 1143, 1144, 1145, 1146, 1147, 1148, 1149, 1150, 1151, 1152, 1153, 1154, 1196, 1197, 1198, 1199, 1200] (by decide +kernel) (by decide +kernel)
set_option maxRecDepth 20000 in
theorem gL_law_X10_part : GoodIn wsL_law (wsV RL 52 RX10 yX10_part wsX10_part) := goodIn_app (goodIn_of _ (by decide +kernel)) ggL_law_X10_part
set_option maxRecDepth 20000 in
theorem ggL_law_X11_part : GoodIn wsL_law wsX11_part := goodIn_r _ [591, 201, 166, 575, 576, 577, 5, 578, 491, 492, 493, 494, 165, 204, 205, 206, 551, 552, 553, 554, 1155, 1156, 1157, 1158, 1159, 1160, 1161, 1162, 1163, 1164, 1165, 1166, 1167, 1168, 1169, 1170, 1171] (by decide +kernel) (by decide +kernel)
set_option maxRecDepth 20000 in
theorem gL_law_X11_part : GoodIn wsL_law (wsV RL 55 RX11 yX11_part wsX11_part) := goodIn_app (goodIn_of _ (by decide +kernel)) ggL_law_X11_part
set_option maxRecDepth 20000 in
theorem ggL_law_X10_now : GoodIn wsL_law wsX10_now := goodIn_r _ [595, 33, 29, 16, 457, 563, 564, 565, 32, 566, 103, 596, 597, 598, 599, 102, 515, 500, 501, 502, 99, 600, 601, 602, 603, 604, 605, 28, 606, 92, 88, 607, 608, 609, 610, 91, 89, 90, 611, 612, 613, 614, 95, 615, 138, 139, 15, 140, 66, 616, 617, 618, 619, 93, 94, 620, 621, 622, 623, 624, 346, 347, 348, 61, 625, 521, 522, 523, 524, 525, 526, 626, 627, 628, 629, 630, 631, 632, 633, 62, 63, 338, 339, 340, 634, 635, 636, 637, 638, 639, 640, 641, 60, 642, 643, 644, 645, 646, 647, 648, 649, 650, 651, 652, 653, 654, 150, 147, 151, 655, 656, 657, 658, 659, 475, 476, 477, 65, 660, 661, 662, 663, 664, 665, 666, 517, 518, 519, 100, 667, 668, 669, 670, 671, 516, 520, 1142, 1143, 1144, 1145, 1146, 1147, 1148, 1149, 1150, 1151, 1152, 1153, 1154, 1196, 1197, 1198, 1199, 1200, 1188, 1189, 1190, 1191, 1192, 1193, 1194, 1195, 1172, 1173, 1174, 1175, 1176, 1177] (by decide +kernel) (by decide +kernel)
set_option maxRecDepth 20000 in
theorem gL_law_X10_now : GoodIn wsL_law (wsV RL 56 RX10 yX10_now wsX10_now) := goodIn_app (goodIn_of _ (by decide +kernel)) ggL_law_X10_now
set_option maxRecDepth 20000 in
theorem ggL_law_X11_now : GoodIn wsL_law wsX11_now := goodIn_r _ [675, 201, 166, 482, 575, 576, 577, 5, 578, 491, 492, 493, 494, 165, 676, 677, 678, 679, 547, 548, 549, 550, 680, 681, 682, 683, 684, 685, 686, 687, 688, 689, 690, 691, 692, 693, 694, 695, 1155, 1156, 1157, 1158, 1159, 1160, 1161, 1162, 1163, 1164, 1165, 1166, 1167, 1168, 1169, 1170, 1171] (by decide +kernel) (by decide +kernel)
set_option maxRecDepth 20000 in
theorem gL_law_X11_now : GoodIn wsL_law (wsV RL 59 RX11 yX11_now wsX11_now) := goodIn_app (goodIn_of _ (by decide +kernel)) ggL_law_X11_now
set_option maxRecDepth 20000 in
theorem ggL_law_X10_many : GoodIn wsL_law wsX10_many := goodIn_r _ [699, 29, 700, 701, 702, 28, 703, 92, 607, 608, 609, 610, 91, 89, 90, 611, 612, 613, 614, 95, 615, 138, 139, 15, 140, 66, 616, 617, 618, 619, 93, 94, 88, 620, 621, 622, 623, 624, 346, 347, 348, 61, 625, 521, 522, 523, 524, 525, 526, 626, 627, 628, 629, 630, 631, 632, 633, 62, 63, 338, 339, 340, 634, 635, 636, 637, 638, 639, 640, 641, 60, 642, 643, 644, 645, 646, 647, 648, 649, 650, 651, 652, 653, 654, 150, 147, 151, 655, 656, 657, 658, 659, 475, 476, 477, 65, 660, 601, 32, 602, 704, 705, 706, 707, 1142, 1143, 1144, 1145, 1146, 1147, 1148, 1149, 1150, 1151, 1152, 1153, 1154, 1188, 1189, 1190, 1191, 1192, 1193, 1194, 1195, 1172, 1173, 1174, 1175, 1176, 1177] (by decide +kernel) (by decide +kernel)
set_option maxRecDepth 20000 in
theorem gL_law_X10_many : GoodIn wsL_law (wsV RL 60 RX10 yX10_many wsX10_many) := goodIn_app (goodIn_of _ (by decide +kernel)) ggL_law_X10_many
set_option maxRecDepth 20000 in
theorem ggL_law_X11_many : GoodIn wsL_law wsX11_many := goodIn_r _ [711, 201, 204, 205, 5, 206, 712, 713, 714, 715, 169, 716, 717, 718, 719, 575, 576, 577, 578, 491, 492, 493, 494, 165, 676, 677, 678, 679, 547, 548, 549, 550, 680, 681, 682, 683, 684, 685, 686, 687, 720, 721, 722, 723, 1155, 1156, 1157, 1158, 1159, 1160, 1161, 1162, 1163, 1164, 1165, 1166, 1167, 1168, 1169, 1170, 1171] (by decide +kernel) (by decide +kernel)
set_option maxRecDepth 20000 in
theorem gL_law_X11_many : GoodIn wsL_law (wsV RL 63 RX11 yX11_many wsX11_many) := goodIn_app (goodIn_of _ (by decide +kernel)) ggL_law_X11_many
