set_option maxRecDepth 20000 in
theorem ggL_law_X9_again : GoodIn wsL_law0 wsX9_again := goodIn_r _ [1267, 23, 16, 21, 20, 1259, 268, 269, 15, 270, 48, 271, 272, 273, 274, 49, 50, 275, 276, 1268, 1269, 1270, 19, 1271, 293, 1322, 1323, 1324, 1325, 1326, 1327, 1328, 1329, 1330, 1357, 1358, 1359, 1360, 1361, 1362, 1363, 1364] (by decide +kernel) (by decide +kernel)
set_option maxRecDepth 20000 in
theorem gL_law_X9_again : GoodIn wsL_law0 (wsV RL 164 RX9 yX9_again wsX9_again) := goodIn_app (goodIn_of _ (by decide +kernel)) ggL_law_X9_again
set_option maxRecDepth 20000 in
theorem ggL_law_X10_again : GoodIn wsL_law0 wsX10_again := goodIn_r _ [1275, 132, 106, 90, 105, 371, 115, 116, 5, 117, 1331, 1332, 1333, 1334, 1335, 1336, 1337, 1338, 1339, 1340, 1341, 1342, 1343, 1344, 1345, 1346, 1347, 1348, 1349, 1350, 1351, 1352, 1353, 1354, 1355, 1356] (by decide +kernel) (by decide +kernel)
set_option maxRecDepth 20000 in
theorem gL_law_X10_again : GoodIn wsL_law0 (wsV RL 167 RX10 yX10_again wsX10_again) := goodIn_app (goodIn_of _ (by decide +kernel)) ggL_law_X10_again
set_option maxRecDepth 20000 in
theorem ggL_law_X9_count : GoodIn wsL_law0 wsX9_count := goodIn_r _ [1279, 16, 150, 634, 20, 1280, 31, 1281, 27, 122, 819, 820, 821, 15, 822, 275, 405, 406, 407, 408, 48, 409, 377, 378, 379, 1282, 1283, 1284, 1285, 286, 287, 171, 288, 1286, 1287, 1288, 1289, 276, 282, 596, 597, 598, 599, 50, 1322, 1323, 1324, 1325, 1326, 1327, 1328, 1329, 1330, 1357, 1358, 1359, 1360, 1361, 1362, 1363, 1364, 1367, 1368, 1365, 1366] (by decide +kernel) (by decide +kernel)
set_option maxRecDepth 20000 in
theorem gL_law_X9_count : GoodIn wsL_law0 (wsV RL 168 RX9 yX9_count wsX9_count) := goodIn_app (goodIn_of _ (by decide +kernel)) ggL_law_X9_count
set_option maxRecDepth 20000 in
theorem ggL_law_X10_count : GoodIn wsL_law0 wsX10_count := goodIn_r _ [1293, 132, 371, 617, 133, 479, 480, 481, 5, 482, 90, 517, 518, 519, 520, 841, 842, 843, 844, 785, 786, 787, 788, 475, 476, 477, 478, 115, 116, 117, 490, 491, 492, 493, 1294, 1295, 1296, 1297, 111, 622, 623, 624, 625, 112, 113, 114, 1331, 1332, 1333, 1334, 1335, 1336, 1337, 1338, 1339, 1340, 1341, 1342, 1343, 1344, 1345, 1346, 1347, 1348, 1349, 1350, 1351, 1352, 1353, 1354, 1355, 1356] (by decide +kernel) (by decide +kernel)
set_option maxRecDepth 20000 in
theorem gL_law_X10_count : GoodIn wsL_law0 (wsV RL 171 RX10 yX10_count wsX10_count) := goodIn_app (goodIn_of _ (by decide +kernel)) ggL_law_X10_count
set_option maxRecDepth 20000 in
theorem ggL_law_X10_answer : GoodIn wsL_law0 wsX10_answer := goodIn_r _ [1313, 132, 617, 93, 115, 116, 5, 117, 1314, 1315, 1316, 1317, 1331, 1332, 1333, 1334, 1335, 1336, 1337, 1338, 1339, 1340, 1341, 1342, 1343, 1344, 1345, 1346, 1347, 1348, 1349, 1350, 1351, 1352, 1353, 1354, 1355, 1356] (by decide +kernel) (by decide +kernel)
set_option maxRecDepth 20000 in
theorem gL_law_X10_answer : GoodIn wsL_law0 (wsV RL 177 RX10 yX10_answer wsX10_answer) := goodIn_app (goodIn_of _ (by decide +kernel)) ggL_law_X10_answer
set_option maxRecDepth 20000 in
theorem ggL_law_X10_thrown : GoodIn wsL_law0 wsX10_thrown := goodIn_r _ [1321, 132, 1331, 1332, 1333, 1334, 1335, 1336, 1337, 1338, 1339, 1340, 1341, 1342, 1343, 1344, 1345, 1346, 1347, 1348, 1349, 1350, 1351, 1352, 1353, 1354, 1355, 1356] (by decide +kernel) (by decide +kernel)
set_option maxRecDepth 20000 in
theorem gL_law_X10_thrown : GoodIn wsL_law0 (wsV RL 178 RX10 yX10_thrown wsX10_thrown) := goodIn_app (goodIn_of _ (by decide +kernel)) ggL_law_X10_thrown
