set_option maxRecDepth 20000 in
theorem ggL_law_X10_saw : GoodIn wsL_law wsX10_saw := goodIn_r _ [770, 37, 439, 440, 441, 2, 442, 443, 444, 445, 446, 16, 136, 137, 138, 15, 139, 66, 771, 772, 773, 36, 774, 110, 775, 776, 777, 778, 106, 107, 109, 779, 780, 781, 782, 1121, 1122, 1123, 1124, 1125, 1126, 1127, 1128, 1129, 1130, 1131, 1132, 1133, 1151, 1152, 1153, 1154, 1155, 1156, 1179, 1180, 1181, 1182] (by decide +kernel) (by decide +kernel)
set_option maxRecDepth 20000 in
theorem gL_law_X10_saw : GoodIn wsL_law (wsV RL 80 RX10 yX10_saw wsX10_saw) := goodIn_app (goodIn_of _ (by decide +kernel)) ggL_law_X10_saw
set_option maxRecDepth 20000 in
theorem ggL_law_X11_saw : GoodIn wsL_law wsX11_saw := goodIn_r _ [786, 200, 165, 464, 465, 466, 5, 467, 468, 469, 470, 471, 472, 473, 474, 475, 164, 203, 204, 205, 1134, 1135, 1136, 1137, 1138, 1139, 1140, 1141, 1142, 1143, 1144, 1145, 1146, 1147, 1148, 1149, 1150] (by decide +kernel) (by decide +kernel)
set_option maxRecDepth 20000 in
theorem gL_law_X11_saw : GoodIn wsL_law (wsV RL 83 RX11 yX11_saw wsX11_saw) := goodIn_app (goodIn_of _ (by decide +kernel)) ggL_law_X11_saw
set_option maxRecDepth 20000 in
theorem ggL_law_X10_forget : GoodIn wsL_law wsX10_forget := goodIn_r _ [790, 37, 779, 780, 781, 36, 782, 110, 366, 367, 368, 369, 1121, 1122, 1123, 1124, 1125, 1126, 1127, 1128, 1129, 1130, 1131, 1132, 1133, 1179, 1180, 1181, 1182] (by decide +kernel) (by decide +kernel)
set_option maxRecDepth 20000 in
theorem gL_law_X10_forget : GoodIn wsL_law (wsV RL 84 RX10 yX10_forget wsX10_forget) := goodIn_app (goodIn_of _ (by decide +kernel)) ggL_law_X10_forget
set_option maxRecDepth 20000 in
theorem ggL_law_X11_forget : GoodIn wsL_law wsX11_forget := goodIn_r _ [794, 200, 165, 1134, 1135, 1136, 1137, 1138, 1139, 1140, 1141, 1142, 1143, 1144, 1145, 1146, 1147, 1148, 1149, 1150] (by decide +kernel) (by decide +kernel)
set_option maxRecDepth 20000 in
theorem gL_law_X11_forget : GoodIn wsL_law (wsV RL 87 RX11 yX11_forget wsX11_forget) := goodIn_app (goodIn_of _ (by decide +kernel)) ggL_law_X11_forget
set_option maxRecDepth 20000 in
theorem ggL_law_X10_left : GoodIn wsL_law wsX10_left := goodIn_r _ [798, 29, 37, 799, 800, 801, 28, 802, 91, 87, 588, 589, 590, 591, 90, 88, 89, 592, 593, 594, 595, 94, 596, 137, 138, 15, 139, 66, 597, 598, 599, 600, 92, 93, 601, 602, 603, 604, 605, 313, 314, 315, 61, 606, 502, 503, 504, 505, 506, 507, 607, 608, 609, 610, 611, 612, 613, 614, 62, 63, 347, 348, 349, 615, 616, 617, 618, 60, 619, 620, 621, 622, 623, 624, 625, 626, 627, 628, 629, 630, 631, 149, 146, 150, 632, 633, 634, 635, 65, 636, 582, 32, 583, 803, 804, 805, 36, 806, 110, 106, 107, 109, 807, 717, 718, 581, 1121, 1122, 1123, 1124, 1125, 1126, 1127, 1128, 1129, 1130, 1131, 1132, 1133, 1166, 1167, 1168, 1169, 1170, 1171, 1172, 1173, 1151, 1152, 1153, 1154, 1155, 1156, 1179, 1180, 1181, 1182] (by decide +kernel) (by decide +kernel)
set_option maxRecDepth 20000 in
theorem gL_law_X10_left : GoodIn wsL_law (wsV RL 88 RX10 yX10_left wsX10_left) := goodIn_app (goodIn_of _ (by decide +kernel)) ggL_law_X10_left
set_option maxRecDepth 20000 in
theorem ggL_law_X11_left : GoodIn wsL_law wsX11_left := goodIn_r _ [811, 200, 812, 813, 814, 5, 815, 168, 692, 693, 694, 695, 816, 817, 818, 819, 165, 652, 653, 654, 655, 164, 556, 557, 558, 559, 472, 473, 474, 475, 528, 529, 530, 531, 656, 657, 658, 659, 660, 661, 662, 663, 696, 697, 698, 699, 1134, 1135, 1136, 1137, 1138, 1139, 1140, 1141, 1142, 1143, 1144, 1145, 1146, 1147, 1148, 1149, 1150] (by decide +kernel) (by decide +kernel)
set_option maxRecDepth 20000 in
theorem gL_law_X11_left : GoodIn wsL_law (wsV RL 91 RX11 yX11_left wsX11_left) := goodIn_app (goodIn_of _ (by decide +kernel)) ggL_law_X11_left
set_option maxRecDepth 20000 in
theorem ggL_law_X10_sure : GoodIn wsL_law wsX10_sure := goodIn_r _ [823, 29, 37, 439, 440, 441, 2, 442, 443, 444, 445, 446, 16, 136, 137, 138, 15, 139, 66, 824, 825, 826, 28, 827, 91, 87, 588, 589, 590, 591, 90, 88, 89, 592, 593, 594, 595, 94, 596, 597, 598, 599, 600, 92, 93, 601, 602, 603, 604, 605, 313, 314, 315, 61, 606, 502, 503, 504, 505, 506, 507, 607, 608, 609, 610, 611, 612, 613, 614, 62, 63, 347, 348, 349, 615, 616, 617, 618, 60, 619, 620, 621, 622, 623, 624, 625, 626, 627, 628, 629, 630, 631, 149, 146, 150, 632, 633, 634, 635, 65, 636, 582, 32, 583, 803, 804, 805, 36, 806, 110, 106, 107, 109, 807, 717, 718, 581, 828, 1121, 1122, 1123, 1124, 1125, 1126, 1127, 1128, 1129, 1130, 1131, 1132, 1133, 1151, 1152, 1153, 1154, 1155, 1156, 1166, 1167, 1168, 1169, 1170, 1171, 1172, 1173, 1179, 1180, 1181, 1182] (by decide +kernel) (by decide +kernel)
set_option maxRecDepth 20000 in
theorem gL_law_X10_sure : GoodIn wsL_law (wsV RL 92 RX10 yX10_sure wsX10_sure) := goodIn_app (goodIn_of _ (by decide +kernel)) ggL_law_X10_sure
set_option maxRecDepth 20000 in
theorem ggL_law_X11_sure : GoodIn wsL_law wsX11_sure := goodIn_r _ [832, 200, 464, 465, 466, 5, 467, 468, 469, 470, 471, 472, 473, 474, 475, 164, 203, 204, 205, 812, 813, 814, 815, 168, 692, 693, 694, 695, 816, 817, 818, 819, 165, 652, 653, 654, 655, 556, 557, 558, 559, 528, 529, 530, 531, 656, 657, 658, 659, 660, 661, 662, 663, 696, 697, 698, 699, 1134, 1135, 1136, 1137, 1138, 1139, 1140, 1141, 1142, 1143, 1144, 1145, 1146, 1147, 1148, 1149, 1150] (by decide +kernel) (by decide +kernel)
set_option maxRecDepth 20000 in
theorem gL_law_X11_sure : GoodIn wsL_law (wsV RL 95 RX11 yX11_sure wsX11_sure) := goodIn_app (goodIn_of _ (by decide +kernel)) ggL_law_X11_sure
