set_option maxRecDepth 100000 in
theorem wli_37 : ∀ w ∈ wsL_law_r37, w ∈ lw_tbl := wliM [856, 858, 30, 859, 860, 861, 862, 863, 864, 865, 866, 867, 868, 869, 870, 871, 872, 873, 874, 875, 876, 877, 878, 879] (by decide +kernel)
set_option maxRecDepth 100000 in
theorem wli_38 : ∀ w ∈ wsL_law_r38, w ∈ lw_tbl := wliM [880, 881, 882, 883, 884, 885, 886, 887, 888, 889, 890, 891, 892, 893, 894, 895, 896, 897, 898, 899, 900, 901, 902, 1327] (by decide +kernel)
set_option maxRecDepth 100000 in
theorem wli_39 : ∀ w ∈ wsL_law_r39, w ∈ lw_tbl := wliM [1328, 1329, 1330, 1331, 1332, 1333, 1334, 1336, 67, 1337, 1338, 1340, 68, 1341, 903, 904, 905, 906, 907, 908, 909, 910, 917, 911] (by decide +kernel)
set_option maxRecDepth 100000 in
theorem wli_40 : ∀ w ∈ wsL_law_r40, w ∈ lw_tbl := wliM [912, 913, 915, 31, 916, 1342, 1343, 1344, 1345, 1346, 1347, 1348, 1349, 1350, 1351, 919, 920, 921, 922, 923, 924, 925, 926, 927] (by decide +kernel)
set_option maxRecDepth 100000 in
theorem wli_41 : ∀ w ∈ wsL_law_r41, w ∈ lw_tbl := wliM [928, 929, 931, 930, 1352, 1353, 1354, 1355, 932, 933, 934, 935, 936, 937, 938, 939, 940, 941, 942, 943, 1356, 1357, 1358, 1359] (by decide +kernel)
set_option maxRecDepth 100000 in
theorem wli_42 : ∀ w ∈ wsL_law_r42, w ∈ lw_tbl := wliM [944, 945, 946, 947, 948, 949, 950, 951, 952, 953, 954, 956, 32, 957, 958, 959, 960, 961, 962, 963, 964, 965, 966, 967] (by decide +kernel)
set_option maxRecDepth 100000 in
theorem wli_43 : ∀ w ∈ wsL_law_r43, w ∈ lw_tbl := wliM [968, 969, 970, 971, 972, 973, 974, 975, 976, 977, 978, 1360, 1361, 1362, 1363, 1364, 1366, 69, 1367, 979, 980, 981, 982, 1368] (by decide +kernel)
set_option maxRecDepth 100000 in
theorem wli_44 : ∀ w ∈ wsL_law_r44, w ∈ lw_tbl := wliM [1369, 1370, 1371, 983, 984, 985, 986, 987, 989, 33, 990, 991, 992, 994, 34, 995, 996, 997, 998, 1000, 35, 1001, 1002, 1003] (by decide +kernel)
set_option maxRecDepth 100000 in
theorem wli_45 : ∀ w ∈ wsL_law_r45, w ∈ lw_tbl := wliM [1004, 1006, 36, 1007, 1008, 1009, 1011, 37, 1012, 1013, 1014, 1016, 38, 1017, 1018, 1372, 1373, 1374, 1375, 1079, 1376, 1377, 1378, 1379] (by decide +kernel)
set_option maxRecDepth 100000 in
theorem wli_46 : ∀ w ∈ wsL_law_r46, w ∈ lw_tbl := wliM [1380, 1019, 1020, 1021, 1022, 1023, 1024, 1025, 1026, 1027, 1028, 1029, 1030, 1031, 1032, 1033, 1034, 1381, 1382, 1383, 1384, 1035, 1036, 1037] (by decide +kernel)
set_option maxRecDepth 100000 in
theorem wli_47 : ∀ w ∈ wsL_law_r47, w ∈ lw_tbl := wliM [1038, 1039, 1040, 1041, 1042, 1043, 1385, 1386, 1387, 1388, 1044, 1045, 1046, 1047, 1048, 1049, 1050, 1051, 1052, 1053, 1054, 1055, 1056, 1057] (by decide +kernel)
set_option maxRecDepth 100000 in
theorem wli_48 : ∀ w ∈ wsL_law_r48, w ∈ lw_tbl := wliM [1058, 1059, 1389, 1390, 1391, 1392, 1060, 1061, 1062, 1063, 1393, 1394, 1395, 1396] (by decide +kernel)
