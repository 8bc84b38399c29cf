set_option maxRecDepth 20000 in
theorem ggL_law_X10_law : GoodIn wsL_law wsX10_law := goodIn_r _ [447, 16, 448, 346, 347, 15, 348, 61, 1142, 1143, 1144, 1145, 1146, 1147, 1148, 1149, 1150, 1151, 1152, 1153, 1154, 1172, 1173, 1174, 1175, 1176, 1177] (by decide +kernel) (by decide +kernel)
set_option maxRecDepth 20000 in
theorem gL_law_X10_law : GoodIn wsL_law (wsV RL 29 RX10 yX10_law wsX10_law) := goodIn_app (goodIn_of _ (by decide +kernel)) ggL_law_X10_law
set_option maxRecDepth 20000 in
theorem ggL_law_X11_law : GoodIn wsL_law wsX11_law := goodIn_r _ [452, 201, 165, 204, 205, 5, 206, 1155, 1156, 1157, 1158, 1159, 1160, 1161, 1162, 1163, 1164, 1165, 1166, 1167, 1168, 1169, 1170, 1171] (by decide +kernel) (by decide +kernel)
set_option maxRecDepth 20000 in
theorem gL_law_X11_law : GoodIn wsL_law (wsV RL 33 RX11 yX11_law wsX11_law) := goodIn_app (goodIn_of _ (by decide +kernel)) ggL_law_X11_law
set_option maxRecDepth 20000 in
theorem ggL_law_X10_pair : GoodIn wsL_law wsX10_pair := goodIn_r _ [456, 457, 16, 458, 459, 460, 2, 461, 462, 463, 464, 465, 137, 138, 139, 15, 140, 66, 466, 467, 468, 469, 62, 338, 339, 340, 470, 471, 472, 473, 63, 474, 475, 476, 477, 65, 1142, 1143, 1144, 1145, 1146, 1147, 1148, 1149, 1150, 1151, 1152, 1153, 1154, 1172, 1173, 1174, 1175, 1176, 1177] (by decide +kernel) (by decide +kernel)
set_option maxRecDepth 20000 in
theorem gL_law_X10_pair : GoodIn wsL_law (wsV RL 34 RX10 yX10_pair wsX10_pair) := goodIn_app (goodIn_of _ (by decide +kernel)) ggL_law_X10_pair
set_option maxRecDepth 20000 in
theorem ggL_law_X11_pair : GoodIn wsL_law wsX11_pair := goodIn_r _ [481, 201, 482, 165, 483, 484, 485, 5, 486, 487, 488, 489, 490, 491, 492, 493, 494, 204, 205, 206, 1155, 1156, 1157, 1158, 1159, 1160, 1161, 1162, 1163, 1164, 1165, 1166, 1167, 1168, 1169, 1170, 1171] (by decide +kernel) (by decide +kernel)
set_option maxRecDepth 20000 in
theorem gL_law_X11_pair : GoodIn wsL_law (wsV RL 38 RX11 yX11_pair wsX11_pair) := goodIn_app (goodIn_of _ (by decide +kernel)) ggL_law_X11_pair
set_option maxRecDepth 20000 in
theorem ggL_law_X10_party : GoodIn wsL_law wsX10_party := goodIn_r _ [498, 33, 462, 463, 464, 2, 465, 16, 137, 138, 139, 15, 140, 66, 499, 500, 501, 32, 502, 102, 99, 1142, 1143, 1144, 1145, 1146, 1147, 1148, 1149, 1150, 1151, 1152, 1153, 1154, 1172, 1173, 1174, 1175, 1176, 1177, 1196, 1197, 1198, 1199, 1200] (by decide +kernel) (by decide +kernel)
set_option maxRecDepth 20000 in
theorem gL_law_X10_party : GoodIn wsL_law (wsV RL 39 RX10 yX10_party wsX10_party) := goodIn_app (goodIn_of _ (by decide +kernel)) ggL_law_X10_party
set_option maxRecDepth 20000 in
theorem ggL_law_X11_party : GoodIn wsL_law wsX11_party := goodIn_r _ [506, 201, 166, 487, 488, 489, 5, 490, 491, 492, 493, 494, 165, 204, 205, 206, 1155, 1156, 1157, 1158, 1159, 1160, 1161, 1162, 1163, 1164, 1165, 1166, 1167, 1168, 1169, 1170, 1171] (by decide +kernel) (by decide +kernel)
set_option maxRecDepth 20000 in
theorem gL_law_X11_party : GoodIn wsL_law (wsV RL 42 RX11 yX11_party wsX11_party) := goodIn_app (goodIn_of _ (by decide +kernel)) ggL_law_X11_party
set_option maxRecDepth 20000 in
theorem ggL_law_X10_goes : GoodIn wsL_law wsX10_goes := goodIn_r _ [510, 33, 462, 463, 464, 2, 465, 16, 137, 138, 139, 15, 140, 66, 511, 512, 513, 32, 514, 515, 500, 501, 502, 102, 99, 516, 517, 518, 519, 103, 100, 520, 521, 522, 523, 524, 525, 526, 499, 527, 528, 529, 530, 531, 532, 533, 534, 101, 535, 536, 537, 538, 152, 153, 154, 155, 156, 157, 158, 159, 1142, 1143, 1144, 1145, 1146, 1147, 1148, 1149, 1150, 1151, 1152, 1153, 1154, 1172, 1173, 1174, 1175, 1176, 1177, 1196, 1197, 1198, 1199, 1200] (by decide +kernel) (by decide +kernel)
set_option maxRecDepth 20000 in
theorem gL_law_X10_goes : GoodIn wsL_law (wsV RL 43 RX10 yX10_goes wsX10_goes) := goodIn_app (goodIn_of _ (by decide +kernel)) ggL_law_X10_goes
set_option maxRecDepth 20000 in
theorem ggL_law_X11_goes : GoodIn wsL_law wsX11_goes := goodIn_r _ [542, 201, 166, 487, 488, 489, 5, 490, 491, 492, 493, 494, 165, 204, 205, 206, 543, 544, 545, 546, 547, 548, 549, 550, 551, 552, 553, 554, 1155, 1156, 1157, 1158, 1159, 1160, 1161, 1162, 1163, 1164, 1165, 1166, 1167, 1168, 1169, 1170, 1171] (by decide +kernel) (by decide +kernel)
set_option maxRecDepth 20000 in
theorem gL_law_X11_goes : GoodIn wsL_law (wsV RL 47 RX11 yX11_goes wsX11_goes) := goodIn_app (goodIn_of _ (by decide +kernel)) ggL_law_X11_goes
