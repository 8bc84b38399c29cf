set_option maxRecDepth 100000 in
theorem wli_13 : ∀ w ∈ wsL_law_r13, w ∈ lw_tbl := wliM [467, 468, 469, 470, 471, 472, 473, 474, 475, 476, 477, 478, 480, 482, 484, 485, 486, 487, 489, 5, 490, 491, 493, 6] (by decide +kernel)
set_option maxRecDepth 100000 in
theorem wli_14 : ∀ w ∈ wsL_law_r14, w ∈ lw_tbl := wliM [494, 495, 497, 7, 498, 499, 501, 8, 502, 503, 504, 505, 506, 507, 509, 9, 510, 511, 513, 10, 514, 515, 516, 517] (by decide +kernel)
set_option maxRecDepth 100000 in
theorem wli_15 : ∀ w ∈ wsL_law_r15, w ∈ lw_tbl := wliM [518, 519, 520, 521, 522, 523, 525, 11, 526, 527, 528, 529, 530, 531, 532, 533, 534, 535, 537, 12, 538, 539, 541, 13] (by decide +kernel)
set_option maxRecDepth 100000 in
theorem wli_16 : ∀ w ∈ wsL_law_r16, w ∈ lw_tbl := wliM [542, 543, 545, 14, 546, 547, 548, 549, 550, 551, 553, 15, 554, 555, 556, 557, 558, 559, 561, 16, 562, 563, 564, 565] (by decide +kernel)
set_option maxRecDepth 100000 in
theorem wli_17 : ∀ w ∈ wsL_law_r17, w ∈ lw_tbl := wliM [566, 567, 568, 569, 570, 571, 572, 573, 574, 575, 576, 577, 578, 1142, 1143, 1144, 1145, 1086, 1082, 1083, 1085, 1146, 1148, 41] (by decide +kernel)
set_option maxRecDepth 100000 in
theorem wli_18 : ∀ w ∈ wsL_law_r18, w ∈ lw_tbl := wliM [1149, 1084, 1150, 1152, 42, 1153, 1154, 1155, 1156, 1157, 1158, 1159, 1160, 1161, 1162, 1163, 1164, 1166, 43, 1167, 1168, 1170, 44, 1171] (by decide +kernel)
set_option maxRecDepth 100000 in
theorem wli_19 : ∀ w ∈ wsL_law_r19, w ∈ lw_tbl := wliM [1172, 1174, 45, 1175, 1176, 1178, 46, 1179, 1180, 1182, 47, 1183, 580, 581, 582, 583, 584, 1184, 1185, 1186, 1187, 585, 586, 587] (by decide +kernel)
set_option maxRecDepth 100000 in
theorem wli_20 : ∀ w ∈ wsL_law_r20, w ∈ lw_tbl := wliM [588, 597, 589, 591, 17, 592, 593, 595, 18, 596, 598, 599, 600, 601, 602, 603, 604, 605, 606, 607, 608, 609, 1188, 1189] (by decide +kernel)
set_option maxRecDepth 100000 in
theorem wli_21 : ∀ w ∈ wsL_law_r21, w ∈ lw_tbl := wliM [1190, 1191, 1204, 1192, 1194, 48, 1195, 1196, 1198, 49, 1199, 1200, 1202, 50, 1203, 610, 611, 612, 613, 614, 615, 616, 617, 1205] (by decide +kernel)
set_option maxRecDepth 100000 in
theorem wli_22 : ∀ w ∈ wsL_law_r22, w ∈ lw_tbl := wliM [1206, 1207, 1208, 618, 619, 620, 621, 622, 623, 624, 625, 626, 627, 628, 629, 630, 631, 632, 88, 633, 634, 635, 636, 637] (by decide +kernel)
set_option maxRecDepth 100000 in
theorem wli_23 : ∀ w ∈ wsL_law_r23, w ∈ lw_tbl := wliM [638, 639, 640, 641, 642, 643, 644, 645, 647, 19, 648, 1209, 1210, 1211, 1212, 1213, 1215, 51, 1216, 1217, 1219, 52, 1220, 1221] (by decide +kernel)
set_option maxRecDepth 100000 in
theorem wli_24 : ∀ w ∈ wsL_law_r24, w ∈ lw_tbl := wliM [1223, 53, 1224, 649, 650, 651, 652, 653, 655, 20, 656, 657, 658, 659, 660, 661, 662, 663, 664, 1225, 1226, 1227, 1228, 1229] (by decide +kernel)
