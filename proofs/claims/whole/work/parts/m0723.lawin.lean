set_option maxRecDepth 100000 in
theorem wli_37 : ∀ w ∈ wsL_law_r37, w ∈ lw_tbl := wliM [849, 850, 851, 852, 853, 854, 855, 856, 857, 858, 859, 860, 861, 862, 863, 864, 865, 866, 867, 868, 869, 870, 871, 1299] (by decide +kernel)
set_option maxRecDepth 100000 in
theorem wli_38 : ∀ w ∈ wsL_law_r38, w ∈ lw_tbl := wliM [1300, 1301, 1302, 1303, 1304, 1305, 1306, 1308, 61, 1309, 1310, 1312, 62, 1313, 872, 873, 874, 875, 876, 877, 878, 879, 886, 880] (by decide +kernel)
set_option maxRecDepth 100000 in
theorem wli_39 : ∀ w ∈ wsL_law_r39, w ∈ lw_tbl := wliM [881, 882, 884, 25, 885, 1314, 1315, 1316, 1317, 1318, 1319, 1320, 1321, 1322, 1323, 888, 889, 890, 891, 892, 893, 894, 895, 896] (by decide +kernel)
set_option maxRecDepth 100000 in
theorem wli_40 : ∀ w ∈ wsL_law_r40, w ∈ lw_tbl := wliM [897, 898, 900, 899, 1324, 1325, 1326, 1327, 901, 902, 903, 904, 905, 906, 907, 908, 909, 910, 911, 912, 1328, 1329, 1330, 1331] (by decide +kernel)
set_option maxRecDepth 100000 in
theorem wli_41 : ∀ w ∈ wsL_law_r41, w ∈ lw_tbl := wliM [913, 914, 915, 916, 917, 918, 919, 920, 921, 922, 923, 925, 26, 926, 927, 928, 929, 930, 931, 932, 933, 934, 935, 936] (by decide +kernel)
set_option maxRecDepth 100000 in
theorem wli_42 : ∀ w ∈ wsL_law_r42, w ∈ lw_tbl := wliM [937, 938, 939, 940, 941, 942, 943, 944, 945, 946, 947, 1332, 1333, 1334, 1335, 1336, 1338, 63, 1339, 948, 949, 950, 951, 1340] (by decide +kernel)
set_option maxRecDepth 100000 in
theorem wli_43 : ∀ w ∈ wsL_law_r43, w ∈ lw_tbl := wliM [1341, 1342, 1343, 952, 953, 954, 955, 956, 958, 27, 959, 960, 961, 963, 28, 964, 965, 966, 967, 969, 29, 970, 971, 972] (by decide +kernel)
set_option maxRecDepth 100000 in
theorem wli_44 : ∀ w ∈ wsL_law_r44, w ∈ lw_tbl := wliM [973, 974, 975, 976, 978, 30, 979, 980, 981, 983, 31, 984, 985, 986, 988, 32, 989, 990, 1344, 1345, 1346, 1347, 1051, 1348] (by decide +kernel)
set_option maxRecDepth 100000 in
theorem wli_45 : ∀ w ∈ wsL_law_r45, w ∈ lw_tbl := wliM [1349, 1350, 1351, 1352, 991, 992, 993, 994, 995, 996, 997, 998, 999, 1000, 1001, 1002, 1003, 1004, 1005, 1006, 1353, 1354, 1355, 1356] (by decide +kernel)
set_option maxRecDepth 100000 in
theorem wli_46 : ∀ w ∈ wsL_law_r46, w ∈ lw_tbl := wliM [1007, 1008, 1009, 1010, 1011, 1012, 1013, 1014, 1015, 1357, 1358, 1359, 1360, 1016, 1017, 1018, 1019, 1020, 1021, 1022, 1023, 1024, 1025, 1026] (by decide +kernel)
set_option maxRecDepth 100000 in
theorem wli_47 : ∀ w ∈ wsL_law_r47, w ∈ lw_tbl := wliM [1027, 1028, 1029, 1030, 1031, 1361, 1362, 1363, 1364, 1032, 1033, 1034, 1035, 1365, 1366, 1367, 1368] (by decide +kernel)
set_option maxRecDepth 100000 in
theorem wlx_0 : ∀ w ∈ wsX00, w ∈ lw_tbl := wliM [291, 293] (by decide +kernel)
