set_option maxRecDepth 100000 in
theorem wli_25 : ∀ w ∈ wsL_law_r25, w ∈ lw_tbl := wliM [1231, 54, 1232, 665, 666, 667, 668, 669, 670, 671, 672, 673, 1233, 1234, 1235, 1236, 674, 675, 676, 677, 678, 679, 680, 681] (by decide +kernel)
set_option maxRecDepth 100000 in
theorem wli_26 : ∀ w ∈ wsL_law_r26, w ∈ lw_tbl := wliM [682, 683, 684, 685, 686, 687, 688, 689, 691, 21, 692, 693, 695, 22, 696, 697, 698, 700, 23, 701, 702, 704, 24, 705] (by decide +kernel)
set_option maxRecDepth 100000 in
theorem wli_27 : ∀ w ∈ wsL_law_r27, w ∈ lw_tbl := wliM [706, 707, 708, 710, 25, 711, 712, 713, 714, 715, 716, 718, 26, 719, 720, 721, 722, 723, 724, 726, 27, 727, 728, 730] (by decide +kernel)
set_option maxRecDepth 100000 in
theorem wli_28 : ∀ w ∈ wsL_law_r28, w ∈ lw_tbl := wliM [28, 731, 732, 734, 29, 735, 742, 736, 737, 738, 739, 740, 741, 743, 744, 745, 746, 747, 748, 749, 750, 751, 752, 753] (by decide +kernel)
set_option maxRecDepth 100000 in
theorem wli_29 : ∀ w ∈ wsL_law_r29, w ∈ lw_tbl := wliM [1237, 1238, 1239, 1240, 1241, 1243, 55, 1244, 1245, 1247, 56, 1248, 1249, 1251, 57, 1252, 1253, 1255, 58, 1256, 1257, 1259, 59, 1260] (by decide +kernel)
set_option maxRecDepth 100000 in
theorem wli_30 : ∀ w ∈ wsL_law_r30, w ∈ lw_tbl := wliM [754, 755, 756, 757, 758, 759, 760, 761, 762, 763, 764, 765, 1261, 1262, 1263, 1264, 1265, 1267, 60, 1268, 1269, 1271, 61, 1272] (by decide +kernel)
set_option maxRecDepth 100000 in
theorem wli_31 : ∀ w ∈ wsL_law_r31, w ∈ lw_tbl := wliM [1273, 1275, 62, 1276, 766, 767, 768, 769, 1277, 1278, 1279, 1280, 770, 771, 772, 773, 774, 775, 776, 777, 778, 779, 780, 1281] (by decide +kernel)
set_option maxRecDepth 100000 in
theorem wli_32 : ∀ w ∈ wsL_law_r32, w ∈ lw_tbl := wliM [1282, 1283, 1284, 1285, 1287, 63, 1288, 781, 782, 783, 784, 785, 786, 787, 788, 789, 790, 791, 792, 793, 794, 1289, 1290, 1291] (by decide +kernel)
set_option maxRecDepth 100000 in
theorem wli_33 : ∀ w ∈ wsL_law_r33, w ∈ lw_tbl := wliM [1292, 1293, 1295, 64, 1296, 1297, 1298, 795, 796, 797, 798, 799, 800, 801, 802, 803, 804, 805, 806, 1299, 1300, 1301, 1302, 807] (by decide +kernel)
set_option maxRecDepth 100000 in
theorem wli_34 : ∀ w ∈ wsL_law_r34, w ∈ lw_tbl := wliM [808, 809, 810, 811, 812, 813, 814, 815, 816, 817, 818, 819, 820, 821, 822, 1303, 1304, 1305, 1306, 823, 824, 825, 826, 1307] (by decide +kernel)
set_option maxRecDepth 100000 in
theorem wli_35 : ∀ w ∈ wsL_law_r35, w ∈ lw_tbl := wliM [1308, 1309, 1310, 827, 828, 829, 830, 831, 832, 833, 834, 835, 836, 837, 838, 839, 1311, 1312, 1313, 1314, 1315, 1317, 65, 1318] (by decide +kernel)
set_option maxRecDepth 100000 in
theorem wli_36 : ∀ w ∈ wsL_law_r36, w ∈ lw_tbl := wliM [1319, 1321, 66, 1322, 840, 841, 842, 843, 844, 845, 846, 847, 848, 1323, 1324, 1325, 1326, 849, 850, 851, 852, 853, 854, 855] (by decide +kernel)
