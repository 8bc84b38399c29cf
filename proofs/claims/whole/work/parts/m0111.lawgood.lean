set_option maxRecDepth 20000 in
theorem ggL_law_X10_law : GoodIn wsL_law wsX10_law := goodIn_r _ [428, 16, 429, 313, 314, 15, 315, 61, 1121, 1122, 1123, 1124, 1125, 1126, 1127, 1128, 1129, 1130, 1131, 1132, 1133, 1151, 1152, 1153, 1154, 1155, 1156] (by decide +kernel) (by decide +kernel)
set_option maxRecDepth 20000 in
theorem gL_law_X10_law : GoodIn wsL_law (wsV RL 29 RX10 yX10_law wsX10_law) := goodIn_app (goodIn_of _ (by decide +kernel)) ggL_law_X10_law
set_option maxRecDepth 20000 in
theorem ggL_law_X11_law : GoodIn wsL_law wsX11_law := goodIn_r _ [433, 200, 164, 203, 204, 5, 205, 1134, 1135, 1136, 1137, 1138, 1139, 1140, 1141, 1142, 1143, 1144, 1145, 1146, 1147, 1148, 1149, 1150] (by decide +kernel) (by decide +kernel)
set_option maxRecDepth 20000 in
theorem gL_law_X11_law : GoodIn wsL_law (wsV RL 33 RX11 yX11_law wsX11_law) := goodIn_app (goodIn_of _ (by decide +kernel)) ggL_law_X11_law
set_option maxRecDepth 20000 in
theorem ggL_law_X10_pair : GoodIn wsL_law wsX10_pair := goodIn_r _ [437, 438, 16, 439, 440, 441, 2, 442, 443, 444, 445, 446, 136, 137, 138, 15, 139, 66, 447, 448, 449, 450, 62, 347, 348, 349, 451, 452, 453, 454, 63, 455, 456, 457, 458, 65, 1121, 1122, 1123, 1124, 1125, 1126, 1127, 1128, 1129, 1130, 1131, 1132, 1133, 1151, 1152, 1153, 1154, 1155, 1156] (by decide +kernel) (by decide +kernel)
set_option maxRecDepth 20000 in
theorem gL_law_X10_pair : GoodIn wsL_law (wsV RL 34 RX10 yX10_pair wsX10_pair) := goodIn_app (goodIn_of _ (by decide +kernel)) ggL_law_X10_pair
set_option maxRecDepth 20000 in
theorem ggL_law_X11_pair : GoodIn wsL_law wsX11_pair := goodIn_r _ [462, 200, 463, 164, 464, 465, 466, 5, 467, 468, 469, 470, 471, 472, 473, 474, 475, 203, 204, 205, 1134, 1135, 1136, 1137, 1138, 1139, 1140, 1141, 1142, 1143, 1144, 1145, 1146, 1147, 1148, 1149, 1150] (by decide +kernel) (by decide +kernel)
set_option maxRecDepth 20000 in
theorem gL_law_X11_pair : GoodIn wsL_law (wsV RL 38 RX11 yX11_pair wsX11_pair) := goodIn_app (goodIn_of _ (by decide +kernel)) ggL_law_X11_pair
set_option maxRecDepth 20000 in
theorem ggL_law_X10_party : GoodIn wsL_law wsX10_party := goodIn_r _ [479, 33, 443, 444, 445, 2, 446, 16, 136, 137, 138, 15, 139, 66, 480, 481, 482, 32, 483, 101, 98, 1121, 1122, 1123, 1124, 1125, 1126, 1127, 1128, 1129, 1130, 1131, 1132, 1133, 1151, 1152, 1153, 1154, 1155, 1156, 1174, 1175, 1176, 1177, 1178] (by decide +kernel) (by decide +kernel)
set_option maxRecDepth 20000 in
theorem gL_law_X10_party : GoodIn wsL_law (wsV RL 39 RX10 yX10_party wsX10_party) := goodIn_app (goodIn_of _ (by decide +kernel)) ggL_law_X10_party
set_option maxRecDepth 20000 in
theorem ggL_law_X11_party : GoodIn wsL_law wsX11_party := goodIn_r _ [487, 200, 165, 468, 469, 470, 5, 471, 472, 473, 474, 475, 164, 203, 204, 205, 1134, 1135, 1136, 1137, 1138, 1139, 1140, 1141, 1142, 1143, 1144, 1145, 1146, 1147, 1148, 1149, 1150] (by decide +kernel) (by decide +kernel)
set_option maxRecDepth 20000 in
theorem gL_law_X11_party : GoodIn wsL_law (wsV RL 42 RX11 yX11_party wsX11_party) := goodIn_app (goodIn_of _ (by decide +kernel)) ggL_law_X11_party
set_option maxRecDepth 20000 in
theorem ggL_law_X10_goes : GoodIn wsL_law wsX10_goes := goodIn_r _ [491, 33, 443, 444, 445, 2, 446, 16, 136, 137, 138, 15, 139, 66, 492, 493, 494, 32, 495, 496, 481, 482, 483, 101, 98, 497, 498, 499, 500, 102, 99, 501, 502, 503, 504, 505, 506, 507, 480, 508, 509, 510, 511, 512, 513, 514, 515, 100, 516, 517, 518, 519, 151, 152, 153, 154, 155, 156, 157, 158, 1121, 1122, 1123, 1124, 1125, 1126, 1127, 1128, 1129, 1130, 1131, 1132, 1133, 1151, 1152, 1153, 1154, 1155, 1156, 1174, 1175, 1176, 1177, 1178] (by decide +kernel) (by decide +kernel)
set_option maxRecDepth 20000 in
theorem gL_law_X10_goes : GoodIn wsL_law (wsV RL 43 RX10 yX10_goes wsX10_goes) := goodIn_app (goodIn_of _ (by decide +kernel)) ggL_law_X10_goes
set_option maxRecDepth 20000 in
theorem ggL_law_X11_goes : GoodIn wsL_law wsX11_goes := goodIn_r _ [523, 200, 165, 468, 469, 470, 5, 471, 472, 473, 474, 475, 164, 203, 204, 205, 524, 525, 526, 527, 528, 529, 530, 531, 532, 533, 534, 535, 1134, 1135, 1136, 1137, 1138, 1139, 1140, 1141, 1142, 1143, 1144, 1145, 1146, 1147, 1148, 1149, 1150] (by decide +kernel) (by decide +kernel)
set_option maxRecDepth 20000 in
theorem gL_law_X11_goes : GoodIn wsL_law (wsV RL 47 RX11 yX11_goes wsX11_goes) := goodIn_app (goodIn_of _ (by decide +kernel)) ggL_law_X11_goes
