/-! words of the law among those of the tables, by their places -/
set_option maxRecDepth 100000 in
theorem in_wsL_law0_r29 : ∀ w ∈ wsL_law0_r29, w ∈ lw_tbl := fun w h => (goodIn_r wsL_law0_r29 [1360, 47, 1361, 1362, 1364, 48, 1365, 627, 628, 629, 630, 631, 1380, 1381, 1382, 1383, 632, 633, 634, 635, 1384, 1385, 1386, 1387] (by decide +kernel) (by decide +kernel) w h).1
set_option maxRecDepth 100000 in
theorem in_wsL_law0_r30 : ∀ w ∈ wsL_law0_r30, w ∈ lw_tbl := fun w h => (goodIn_r wsL_law0_r30 [636, 637, 638, 639, 640, 641, 642, 643, 644, 645, 646, 647, 648, 649, 650, 651, 1366, 1367, 1368, 1369, 1370, 1372, 49, 1373] (by decide +kernel) (by decide +kernel) w h).1
set_option maxRecDepth 100000 in
theorem in_wsL_law0_r31 : ∀ w ∈ wsL_law0_r31, w ∈ lw_tbl := fun w h => (goodIn_r wsL_law0_r31 [1374, 1375, 1376, 1377, 1379, 1378, 652, 653, 654, 655, 214, 656, 657, 658, 659, 660, 661, 662, 663, 664, 138, 124, 665, 666] (by decide +kernel) (by decide +kernel) w h).1
set_option maxRecDepth 100000 in
theorem in_wsL_law0_r32 : ∀ w ∈ wsL_law0_r32, w ∈ lw_tbl := fun w h => (goodIn_r wsL_law0_r32 [667, 668, 669, 670, 671, 672, 673, 675, 4, 676, 677, 679, 5, 680, 681, 682, 683, 684, 685, 686, 687, 688, 689, 690] (by decide +kernel) (by decide +kernel) w h).1
set_option maxRecDepth 100000 in
theorem in_wsL_law0_r33 : ∀ w ∈ wsL_law0_r33, w ∈ lw_tbl := fun w h => (goodIn_r wsL_law0_r33 [691, 692, 693, 694, 695, 696, 697, 698, 699, 700, 701, 702, 1388, 1389, 1390, 1391, 1392, 1394, 50, 1395, 1396, 1398, 51, 1399] (by decide +kernel) (by decide +kernel) w h).1
set_option maxRecDepth 100000 in
theorem in_wsL_law0_r34 : ∀ w ∈ wsL_law0_r34, w ∈ lw_tbl := fun w h => (goodIn_r wsL_law0_r34 [1400, 1402, 52, 1403, 1084, 1404, 1406, 53, 1407, 1408, 1410, 54, 1411, 1412, 1414, 55, 1415, 1416, 1417, 1419, 56, 1420, 703, 704] (by decide +kernel) (by decide +kernel) w h).1
set_option maxRecDepth 100000 in
theorem in_wsL_law0_r35 : ∀ w ∈ wsL_law0_r35, w ∈ lw_tbl := fun w h => (goodIn_r wsL_law0_r35 [705, 706, 707, 708, 709, 710, 711, 712, 713, 714, 715, 716, 717, 1421, 1422, 1423, 1424, 1425, 1427, 57, 1428, 1429, 1431, 58] (by decide +kernel) (by decide +kernel) w h).1
set_option maxRecDepth 100000 in
theorem in_wsL_law0_r36 : ∀ w ∈ wsL_law0_r36, w ∈ lw_tbl := fun w h => (goodIn_r wsL_law0_r36 [1432, 1433, 1435, 59, 1436, 718, 719, 720, 721, 722, 723, 724, 725, 726, 1437, 1438, 1439, 1440, 1441, 1443, 60, 1444, 727, 728] (by decide +kernel) (by decide +kernel) w h).1
set_option maxRecDepth 100000 in
theorem in_wsL_law0_r37 : ∀ w ∈ wsL_law0_r37, w ∈ lw_tbl := fun w h => (goodIn_r wsL_law0_r37 [729, 730, 731, 732, 733, 734, 735, 1445, 1446, 1447, 1448, 736, 737, 738, 739, 740, 741, 742, 743, 133, 744, 745, 1449, 1450] (by decide +kernel) (by decide +kernel) w h).1
set_option maxRecDepth 100000 in
theorem in_wsL_law0_r38 : ∀ w ∈ wsL_law0_r38, w ∈ lw_tbl := fun w h => (goodIn_r wsL_law0_r38 [1451, 1452, 746, 747, 748, 749, 238, 235, 764, 750, 751, 752, 753, 236, 183, 131, 754, 755, 756, 757, 758, 759, 761, 6] (by decide +kernel) (by decide +kernel) w h).1
set_option maxRecDepth 100000 in
theorem in_wsL_law0_r39 : ∀ w ∈ wsL_law0_r39, w ∈ lw_tbl := fun w h => (goodIn_r wsL_law0_r39 [762, 763, 1453, 1454, 1455, 1456, 1087, 1465, 1457, 1459, 61, 1460, 1461, 1463, 62, 1464, 765, 766, 767, 768, 769, 770, 771, 1466] (by decide +kernel) (by decide +kernel) w h).1
set_option maxRecDepth 100000 in
theorem in_wsL_law0_r40 : ∀ w ∈ wsL_law0_r40, w ∈ lw_tbl := fun w h => (goodIn_r wsL_law0_r40 [1467, 1468, 1469, 772, 773, 774, 775, 776, 777, 778, 779, 1470, 1471, 1472, 1473, 780, 781, 782, 783, 784, 785, 786, 787, 136] (by decide +kernel) (by decide +kernel) w h).1
set_option maxRecDepth 100000 in
theorem in_wsL_law0_r41 : ∀ w ∈ wsL_law0_r41, w ∈ lw_tbl := fun w h => (goodIn_r wsL_law0_r41 [256, 257, 788, 789, 790, 791, 792, 793, 794, 795, 797, 7, 798, 799, 800, 801, 802, 803, 804, 805, 237, 234, 806, 807] (by decide +kernel) (by decide +kernel) w h).1
set_option maxRecDepth 100000 in
theorem in_wsL_law0_r42 : ∀ w ∈ wsL_law0_r42, w ∈ lw_tbl := fun w h => (goodIn_r wsL_law0_r42 [808, 809, 810, 135, 130, 811, 127, 1474, 1475, 1476, 1477, 1478, 1480, 63, 1481, 1482, 1484, 64, 1485, 1486, 1488, 65, 1489, 812] (by decide +kernel) (by decide +kernel) w h).1
