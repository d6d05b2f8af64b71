/-! words of the law among those of the tables, by their places -/
set_option maxRecDepth 100000 in
theorem in_wsL_law0_r15 : ∀ w ∈ wsL_law0_r15, w ∈ lw_tbl := fun w h => (goodIn_r wsL_law0_r15 [1197, 1198, 1199, 1200, 1201, 1202, 1203, 1204, 1205, 1206, 1207, 1208, 1209, 1210, 1211, 1212, 1213, 1214, 1215, 1216, 1218, 30, 1219, 1220] (by decide +kernel) (by decide +kernel) w h).1
set_option maxRecDepth 100000 in
theorem in_wsL_law0_r16 : ∀ w ∈ wsL_law0_r16, w ∈ lw_tbl := fun w h => (goodIn_r wsL_law0_r16 [1222, 31, 1223, 1224, 1226, 32, 1227, 1228, 1230, 33, 1231, 1093, 463, 464, 465, 466, 467, 468, 469, 470, 471, 472, 473, 474] (by decide +kernel) (by decide +kernel) w h).1
set_option maxRecDepth 100000 in
theorem in_wsL_law0_r17 : ∀ w ∈ wsL_law0_r17, w ∈ lw_tbl := fun w h => (goodIn_r wsL_law0_r17 [475, 476, 477, 478, 479, 480, 482, 1, 483, 484, 485, 486, 487, 488, 490, 2, 491, 492, 493, 494, 495, 496, 497, 498] (by decide +kernel) (by decide +kernel) w h).1
set_option maxRecDepth 100000 in
theorem in_wsL_law0_r18 : ∀ w ∈ wsL_law0_r18, w ∈ lw_tbl := fun w h => (goodIn_r wsL_law0_r18 [499, 500, 501, 502, 503, 504, 505, 506, 507, 508, 509, 510, 512, 513, 514, 515, 517, 536, 540, 516, 518, 519, 99, 520] (by decide +kernel) (by decide +kernel) w h).1
set_option maxRecDepth 100000 in
theorem in_wsL_law0_r19 : ∀ w ∈ wsL_law0_r19, w ∈ lw_tbl := fun w h => (goodIn_r wsL_law0_r19 [531, 521, 522, 523, 524, 525, 101, 526, 527, 528, 102, 529, 530, 532, 533, 534, 535, 537, 538, 539, 541, 542, 543, 544] (by decide +kernel) (by decide +kernel) w h).1
set_option maxRecDepth 100000 in
theorem in_wsL_law0_r20 : ∀ w ∈ wsL_law0_r20, w ∈ lw_tbl := fun w h => (goodIn_r wsL_law0_r20 [545, 546, 547, 548, 549, 550, 551, 552, 553, 554, 1232, 1233, 1234, 1235, 1236, 1238, 34, 1239, 1240, 1242, 35, 1243, 1244, 1245] (by decide +kernel) (by decide +kernel) w h).1
set_option maxRecDepth 100000 in
theorem in_wsL_law0_r21 : ∀ w ∈ wsL_law0_r21, w ∈ lw_tbl := fun w h => (goodIn_r wsL_law0_r21 [1246, 1247, 1249, 36, 1250, 1251, 1253, 37, 1254, 1255, 1257, 38, 1258, 1259, 1260, 1261, 1262, 1263, 1264, 1265, 1267, 1269, 39, 1270] (by decide +kernel) (by decide +kernel) w h).1
set_option maxRecDepth 100000 in
theorem in_wsL_law0_r22 : ∀ w ∈ wsL_law0_r22, w ∈ lw_tbl := fun w h => (goodIn_r wsL_law0_r22 [1271, 1273, 40, 1274, 1275, 1277, 41, 1278, 1279, 1281, 42, 1282, 1283, 1284, 1285, 1286, 1287, 1288, 1289, 1290, 1291, 1292, 1293, 1294] (by decide +kernel) (by decide +kernel) w h).1
set_option maxRecDepth 100000 in
theorem in_wsL_law0_r23 : ∀ w ∈ wsL_law0_r23, w ∈ lw_tbl := fun w h => (goodIn_r wsL_law0_r23 [1305, 1295, 1296, 103, 1297, 1301, 1303, 1302, 103, 1304, 1298, 1299, 1300, 1306, 1307, 104, 1308, 1312, 1314, 1313, 104, 1315, 1309, 1310] (by decide +kernel) (by decide +kernel) w h).1
set_option maxRecDepth 100000 in
theorem in_wsL_law0_r24 : ∀ w ∈ wsL_law0_r24, w ∈ lw_tbl := fun w h => (goodIn_r wsL_law0_r24 [1311, 1316, 1318, 43, 1319, 1320, 1321, 1322, 1323, 1325, 1324, 555, 556, 557, 558, 559, 561, 3, 562, 1326, 1327, 1328, 1329, 563] (by decide +kernel) (by decide +kernel) w h).1
set_option maxRecDepth 100000 in
theorem in_wsL_law0_r25 : ∀ w ∈ wsL_law0_r25, w ∈ lw_tbl := fun w h => (goodIn_r wsL_law0_r25 [564, 565, 566, 567, 568, 569, 570, 571, 572, 573, 574, 575, 576, 577, 578, 579, 580, 581, 582, 583, 584, 585, 586, 587] (by decide +kernel) (by decide +kernel) w h).1
set_option maxRecDepth 100000 in
theorem in_wsL_law0_r26 : ∀ w ∈ wsL_law0_r26, w ∈ lw_tbl := fun w h => (goodIn_r wsL_law0_r26 [588, 589, 590, 199, 591, 592, 593, 594, 1330, 1331, 1332, 1333, 1075, 1334, 1336, 44, 1337, 1338, 1340, 45, 1341, 1342, 1344, 46] (by decide +kernel) (by decide +kernel) w h).1
set_option maxRecDepth 100000 in
theorem in_wsL_law0_r27 : ∀ w ∈ wsL_law0_r27, w ∈ lw_tbl := fun w h => (goodIn_r wsL_law0_r27 [1345, 595, 596, 597, 598, 139, 599, 1346, 1347, 1348, 1349, 600, 601, 602, 603, 125, 1350, 1351, 1352, 1353, 604, 605, 606, 607] (by decide +kernel) (by decide +kernel) w h).1
set_option maxRecDepth 100000 in
theorem in_wsL_law0_r28 : ∀ w ∈ wsL_law0_r28, w ∈ lw_tbl := fun w h => (goodIn_r wsL_law0_r28 [608, 609, 610, 611, 612, 613, 614, 615, 616, 617, 618, 619, 620, 621, 622, 623, 624, 625, 626, 1354, 1355, 1356, 1357, 1358] (by decide +kernel) (by decide +kernel) w h).1
