set_option maxRecDepth 20000 in
theorem ggL_law_X10_join : GoodIn wsL_law wsX10_join := goodIn_r _ [539, 33, 540, 541, 542, 2, 543, 544, 545, 546, 32, 547, 102, 548, 549, 550, 551, 101, 100, 98, 151, 152, 153, 154, 99, 155, 156, 157, 158, 1121, 1122, 1123, 1124, 1125, 1126, 1127, 1128, 1129, 1130, 1131, 1132, 1133, 1174, 1175, 1176, 1177, 1178] (by decide +kernel) (by decide +kernel)
set_option maxRecDepth 20000 in
theorem gL_law_X10_join : GoodIn wsL_law (wsV RL 48 RX10 yX10_join wsX10_join) := goodIn_app (goodIn_of _ (by decide +kernel)) ggL_law_X10_join
set_option maxRecDepth 20000 in
theorem ggL_law_X11_join : GoodIn wsL_law wsX11_join := goodIn_r _ [555, 200, 165, 556, 557, 558, 5, 559, 472, 473, 474, 475, 164, 203, 204, 205, 532, 533, 534, 535, 1134, 1135, 1136, 1137, 1138, 1139, 1140, 1141, 1142, 1143, 1144, 1145, 1146, 1147, 1148, 1149, 1150] (by decide +kernel) (by decide +kernel)
set_option maxRecDepth 20000 in
theorem gL_law_X11_join : GoodIn wsL_law (wsV RL 51 RX11 yX11_join wsX11_join) := goodIn_app (goodIn_of _ (by decide +kernel)) ggL_law_X11_join
set_option maxRecDepth 20000 in
theorem ggL_law_X10_part : GoodIn wsL_law wsX10_part := goodIn_r _ [563, 33, 540, 541, 542, 2, 543, 544, 545, 546, 32, 547, 102, 564, 498, 499, 500, 99, 565, 566, 567, 568, 101, 100, 98, 151, 152, 153, 154, 155, 156, 157, 158, 1121, 1122, 1123, 1124, 1125, 1126, 1127, 1128, 1129, 1130, 1131, 1132, 1133, 1174, 1175, 1176, 1177, 1178] (by decide +kernel) (by decide +kernel)
set_option maxRecDepth 20000 in
theorem gL_law_X10_part : GoodIn wsL_law (wsV RL 52 RX10 yX10_part wsX10_part) := goodIn_app (goodIn_of _ (by decide +kernel)) ggL_law_X10_part
set_option maxRecDepth 20000 in
theorem ggL_law_X11_part : GoodIn wsL_law wsX11_part := goodIn_r _ [572, 200, 165, 556, 557, 558, 5, 559, 472, 473, 474, 475, 164, 203, 204, 205, 532, 533, 534, 535, 1134, 1135, 1136, 1137, 1138, 1139, 1140, 1141, 1142, 1143, 1144, 1145, 1146, 1147, 1148, 1149, 1150] (by decide +kernel) (by decide +kernel)
set_option maxRecDepth 20000 in
theorem gL_law_X11_part : GoodIn wsL_law (wsV RL 55 RX11 yX11_part wsX11_part) := goodIn_app (goodIn_of _ (by decide +kernel)) ggL_law_X11_part
set_option maxRecDepth 20000 in
theorem ggL_law_X10_now : GoodIn wsL_law wsX10_now := goodIn_r _ [576, 33, 29, 16, 438, 544, 545, 546, 32, 547, 102, 577, 578, 579, 580, 101, 496, 481, 482, 483, 98, 581, 582, 583, 584, 585, 586, 28, 587, 91, 87, 588, 589, 590, 591, 90, 88, 89, 592, 593, 594, 595, 94, 596, 137, 138, 15, 139, 66, 597, 598, 599, 600, 92, 93, 601, 602, 603, 604, 605, 313, 314, 315, 61, 606, 502, 503, 504, 505, 506, 507, 607, 608, 609, 610, 611, 612, 613, 614, 62, 63, 347, 348, 349, 615, 616, 617, 618, 60, 619, 620, 621, 622, 623, 624, 625, 626, 627, 628, 629, 630, 631, 149, 146, 150, 632, 633, 634, 635, 65, 636, 637, 638, 639, 640, 641, 642, 498, 499, 500, 99, 643, 644, 645, 646, 647, 497, 501, 1121, 1122, 1123, 1124, 1125, 1126, 1127, 1128, 1129, 1130, 1131, 1132, 1133, 1174, 1175, 1176, 1177, 1178, 1166, 1167, 1168, 1169, 1170, 1171, 1172, 1173, 1151, 1152, 1153, 1154, 1155, 1156] (by decide +kernel) (by decide +kernel)
set_option maxRecDepth 20000 in
theorem gL_law_X10_now : GoodIn wsL_law (wsV RL 56 RX10 yX10_now wsX10_now) := goodIn_app (goodIn_of _ (by decide +kernel)) ggL_law_X10_now
set_option maxRecDepth 20000 in
theorem ggL_law_X11_now : GoodIn wsL_law wsX11_now := goodIn_r _ [651, 200, 165, 463, 556, 557, 558, 5, 559, 472, 473, 474, 475, 164, 652, 653, 654, 655, 528, 529, 530, 531, 656, 657, 658, 659, 660, 661, 662, 663, 664, 665, 666, 667, 668, 669, 670, 671, 1134, 1135, 1136, 1137, 1138, 1139, 1140, 1141, 1142, 1143, 1144, 1145, 1146, 1147, 1148, 1149, 1150] (by decide +kernel) (by decide +kernel)
set_option maxRecDepth 20000 in
theorem gL_law_X11_now : GoodIn wsL_law (wsV RL 59 RX11 yX11_now wsX11_now) := goodIn_app (goodIn_of _ (by decide +kernel)) ggL_law_X11_now
set_option maxRecDepth 20000 in
theorem ggL_law_X10_many : GoodIn wsL_law wsX10_many := goodIn_r _ [675, 29, 676, 677, 678, 28, 679, 91, 588, 589, 590, 591, 90, 88, 89, 592, 593, 594, 595, 94, 596, 137, 138, 15, 139, 66, 597, 598, 599, 600, 92, 93, 87, 601, 602, 603, 604, 605, 313, 314, 315, 61, 606, 502, 503, 504, 505, 506, 507, 607, 608, 609, 610, 611, 612, 613, 614, 62, 63, 347, 348, 349, 615, 616, 617, 618, 60, 619, 620, 621, 622, 623, 624, 625, 626, 627, 628, 629, 630, 631, 149, 146, 150, 632, 633, 634, 635, 65, 636, 582, 32, 583, 680, 681, 682, 683, 1121, 1122, 1123, 1124, 1125, 1126, 1127, 1128, 1129, 1130, 1131, 1132, 1133, 1166, 1167, 1168, 1169, 1170, 1171, 1172, 1173, 1151, 1152, 1153, 1154, 1155, 1156] (by decide +kernel) (by decide +kernel)
set_option maxRecDepth 20000 in
theorem gL_law_X10_many : GoodIn wsL_law (wsV RL 60 RX10 yX10_many wsX10_many) := goodIn_app (goodIn_of _ (by decide +kernel)) ggL_law_X10_many
set_option maxRecDepth 20000 in
theorem ggL_law_X11_many : GoodIn wsL_law wsX11_many := goodIn_r _ [687, 200, 203, 204, 5, 205, 688, 689, 690, 691, 168, 692, 693, 694, 695, 556, 557, 558, 559, 472, 473, 474, 475, 164, 652, 653, 654, 655, 528, 529, 530, 531, 656, 657, 658, 659, 660, 661, 662, 663, 696, 697, 698, 699, 1134, 1135, 1136, 1137, 1138, 1139, 1140, 1141, 1142, 1143, 1144, 1145, 1146, 1147, 1148, 1149, 1150] (by decide +kernel) (by decide +kernel)
set_option maxRecDepth 20000 in
theorem gL_law_X11_many : GoodIn wsL_law (wsV RL 63 RX11 yX11_many wsX11_many) := goodIn_app (goodIn_of _ (by decide +kernel)) ggL_law_X11_many
