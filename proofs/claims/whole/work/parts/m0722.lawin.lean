set_option maxRecDepth 100000 in
theorem wli_25 : ∀ w ∈ wsL_law_r25, w ∈ lw_tbl := wliM [651, 652, 653, 654, 655, 656, 657, 658, 659, 660, 661, 662, 663, 665, 15, 666, 667, 669, 16, 670, 671, 672, 674, 17] (by decide +kernel)
set_option maxRecDepth 100000 in
theorem wli_26 : ∀ w ∈ wsL_law_r26, w ∈ lw_tbl := wliM [675, 676, 678, 18, 679, 680, 681, 682, 684, 19, 685, 686, 687, 688, 689, 690, 692, 20, 693, 694, 696, 21, 697, 698] (by decide +kernel)
set_option maxRecDepth 100000 in
theorem wli_27 : ∀ w ∈ wsL_law_r27, w ∈ lw_tbl := wliM [700, 22, 701, 702, 704, 23, 705, 711, 706, 707, 708, 709, 710, 712, 713, 714, 715, 716, 717, 718, 719, 720, 721, 722] (by decide +kernel)
set_option maxRecDepth 100000 in
theorem wli_28 : ∀ w ∈ wsL_law_r28, w ∈ lw_tbl := wliM [1209, 1210, 1211, 1212, 1213, 1215, 49, 1216, 1217, 1219, 50, 1220, 1221, 1223, 51, 1224, 1225, 1227, 52, 1228, 1229, 1231, 53, 1232] (by decide +kernel)
set_option maxRecDepth 100000 in
theorem wli_29 : ∀ w ∈ wsL_law_r29, w ∈ lw_tbl := wliM [723, 724, 725, 726, 727, 728, 729, 730, 731, 732, 733, 734, 1233, 1234, 1235, 1236, 1237, 1239, 54, 1240, 1241, 1243, 55, 1244] (by decide +kernel)
set_option maxRecDepth 100000 in
theorem wli_30 : ∀ w ∈ wsL_law_r30, w ∈ lw_tbl := wliM [1245, 1247, 56, 1248, 735, 736, 737, 738, 1249, 1250, 1251, 1252, 739, 740, 741, 742, 743, 744, 745, 746, 747, 748, 749, 1253] (by decide +kernel)
set_option maxRecDepth 100000 in
theorem wli_31 : ∀ w ∈ wsL_law_r31, w ∈ lw_tbl := wliM [1254, 1255, 1256, 1257, 1259, 57, 1260, 750, 751, 752, 753, 754, 755, 756, 757, 758, 759, 760, 761, 762, 763, 1261, 1262, 1263] (by decide +kernel)
set_option maxRecDepth 100000 in
theorem wli_32 : ∀ w ∈ wsL_law_r32, w ∈ lw_tbl := wliM [1264, 1265, 1267, 58, 1268, 1269, 1270, 764, 765, 766, 767, 768, 769, 770, 771, 772, 773, 774, 775, 1271, 1272, 1273, 1274, 776] (by decide +kernel)
set_option maxRecDepth 100000 in
theorem wli_33 : ∀ w ∈ wsL_law_r33, w ∈ lw_tbl := wliM [777, 778, 779, 780, 781, 782, 783, 784, 785, 786, 787, 788, 789, 790, 791, 1275, 1276, 1277, 1278, 792, 793, 794, 795, 1279] (by decide +kernel)
set_option maxRecDepth 100000 in
theorem wli_34 : ∀ w ∈ wsL_law_r34, w ∈ lw_tbl := wliM [1280, 1281, 1282, 796, 797, 798, 799, 800, 801, 802, 803, 804, 805, 806, 807, 808, 1283, 1284, 1285, 1286, 1287, 1289, 59, 1290] (by decide +kernel)
set_option maxRecDepth 100000 in
theorem wli_35 : ∀ w ∈ wsL_law_r35, w ∈ lw_tbl := wliM [1291, 1293, 60, 1294, 809, 810, 811, 812, 813, 814, 815, 816, 817, 1295, 1296, 1297, 1298, 818, 819, 820, 821, 822, 823, 824] (by decide +kernel)
set_option maxRecDepth 100000 in
theorem wli_36 : ∀ w ∈ wsL_law_r36, w ∈ lw_tbl := wliM [825, 827, 24, 828, 829, 830, 831, 832, 833, 834, 835, 836, 837, 838, 839, 840, 841, 842, 843, 844, 845, 846, 847, 848] (by decide +kernel)
