set_option maxRecDepth 100000 in
theorem wli_13 : ∀ w ∈ wsL_law_r13, w ∈ lw_tbl := wliM [460, 461, 462, 463, 464, 465, 466, 467, 468, 469, 470, 472, 474, 476, 477, 478, 479, 481, 5, 482, 483, 485, 6, 486] (by decide +kernel)
set_option maxRecDepth 100000 in
theorem wli_14 : ∀ w ∈ wsL_law_r14, w ∈ lw_tbl := wliM [487, 488, 489, 490, 491, 493, 7, 494, 495, 496, 497, 498, 499, 500, 501, 503, 8, 504, 505, 506, 508, 9, 509, 510] (by decide +kernel)
set_option maxRecDepth 100000 in
theorem wli_15 : ∀ w ∈ wsL_law_r15, w ∈ lw_tbl := wliM [512, 10, 513, 514, 515, 516, 517, 518, 519, 520, 521, 522, 523, 524, 525, 526, 527, 528, 529, 530, 531, 532, 533, 534] (by decide +kernel)
set_option maxRecDepth 100000 in
theorem wli_16 : ∀ w ∈ wsL_law_r16, w ∈ lw_tbl := wliM [535, 536, 537, 538, 539, 540, 541, 542, 543, 544, 545, 546, 547, 548, 549, 550, 551, 552, 1114, 1115, 1116, 1117, 1058, 1054] (by decide +kernel)
set_option maxRecDepth 100000 in
theorem wli_17 : ∀ w ∈ wsL_law_r17, w ∈ lw_tbl := wliM [1055, 1057, 1118, 1120, 35, 1121, 1056, 1122, 1124, 36, 1125, 1126, 1127, 1128, 1129, 1130, 1131, 1132, 1133, 1134, 1135, 1136, 1138, 37] (by decide +kernel)
set_option maxRecDepth 100000 in
theorem wli_18 : ∀ w ∈ wsL_law_r18, w ∈ lw_tbl := wliM [1139, 1140, 1142, 38, 1143, 1144, 1146, 39, 1147, 1148, 1150, 40, 1151, 1152, 1154, 41, 1155, 554, 555, 556, 557, 558, 1156, 1157] (by decide +kernel)
set_option maxRecDepth 100000 in
theorem wli_19 : ∀ w ∈ wsL_law_r19, w ∈ lw_tbl := wliM [1158, 1159, 559, 560, 561, 562, 571, 563, 565, 11, 566, 567, 569, 12, 570, 572, 573, 574, 575, 576, 577, 578, 579, 580] (by decide +kernel)
set_option maxRecDepth 100000 in
theorem wli_20 : ∀ w ∈ wsL_law_r20, w ∈ lw_tbl := wliM [581, 582, 583, 1160, 1161, 1162, 1163, 1176, 1164, 1166, 42, 1167, 1168, 1170, 43, 1171, 1172, 1174, 44, 1175, 584, 585, 586, 587] (by decide +kernel)
set_option maxRecDepth 100000 in
theorem wli_21 : ∀ w ∈ wsL_law_r21, w ∈ lw_tbl := wliM [588, 589, 590, 591, 1177, 1178, 1179, 1180, 592, 593, 594, 595, 596, 597, 598, 599, 600, 601, 602, 603, 604, 605, 606, 82] (by decide +kernel)
set_option maxRecDepth 100000 in
theorem wli_22 : ∀ w ∈ wsL_law_r22, w ∈ lw_tbl := wliM [607, 608, 609, 610, 611, 612, 613, 614, 615, 616, 617, 618, 619, 621, 13, 622, 1181, 1182, 1183, 1184, 1185, 1187, 45, 1188] (by decide +kernel)
set_option maxRecDepth 100000 in
theorem wli_23 : ∀ w ∈ wsL_law_r23, w ∈ lw_tbl := wliM [1189, 1191, 46, 1192, 1193, 1195, 47, 1196, 623, 624, 625, 626, 627, 629, 14, 630, 631, 632, 633, 634, 635, 636, 637, 638] (by decide +kernel)
set_option maxRecDepth 100000 in
theorem wli_24 : ∀ w ∈ wsL_law_r24, w ∈ lw_tbl := wliM [1197, 1198, 1199, 1200, 1201, 1203, 48, 1204, 639, 640, 641, 642, 643, 644, 645, 646, 647, 1205, 1206, 1207, 1208, 648, 649, 650] (by decide +kernel)
