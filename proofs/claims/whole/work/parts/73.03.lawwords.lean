/-! words of the law among those of the tables, by their places -/
set_option maxRecDepth 100000 in
theorem in_wsL_law0_r43 : ∀ w ∈ wsL_law0_r43, w ∈ lw_tbl := fun w h => (goodIn_r wsL_law0_r43 [813, 814, 815, 816, 817, 818, 819, 820, 821, 822, 823, 213, 824, 826, 8, 827, 1490, 1491, 1492, 1493, 828, 829, 830, 831] (by decide +kernel) (by decide +kernel) w h).1
set_option maxRecDepth 100000 in
theorem in_wsL_law0_r44 : ∀ w ∈ wsL_law0_r44, w ∈ lw_tbl := fun w h => (goodIn_r wsL_law0_r44 [832, 833, 834, 835, 836, 838, 9, 839, 1494, 1495, 1496, 1497, 1498, 1500, 66, 1501, 840, 841, 842, 843, 844, 846, 10, 847] (by decide +kernel) (by decide +kernel) w h).1
set_option maxRecDepth 100000 in
theorem in_wsL_law0_r45 : ∀ w ∈ wsL_law0_r45, w ∈ lw_tbl := fun w h => (goodIn_r wsL_law0_r45 [848, 849, 850, 851, 852, 853, 854, 855, 869, 856, 858, 11, 859, 860, 861, 863, 12, 864, 865, 866, 867, 868, 1502, 1503] (by decide +kernel) (by decide +kernel) w h).1
set_option maxRecDepth 100000 in
theorem in_wsL_law0_r46 : ∀ w ∈ wsL_law0_r46, w ∈ lw_tbl := fun w h => (goodIn_r wsL_law0_r46 [1504, 1505, 1506, 1508, 67, 1509, 1510, 1512, 68, 1513, 1514, 1516, 69, 1517, 870, 871, 872, 873, 874, 876, 13, 877, 878, 879] (by decide +kernel) (by decide +kernel) w h).1
set_option maxRecDepth 100000 in
theorem in_wsL_law0_r47 : ∀ w ∈ wsL_law0_r47, w ∈ lw_tbl := fun w h => (goodIn_r wsL_law0_r47 [880, 881, 882, 1518, 1519, 1520, 1521, 1522, 1524, 70, 1525, 1526, 1528, 71, 1529, 1530, 1532, 72, 1533, 1534, 1536, 73, 1537, 883] (by decide +kernel) (by decide +kernel) w h).1
set_option maxRecDepth 100000 in
theorem in_wsL_law0_r48 : ∀ w ∈ wsL_law0_r48, w ∈ lw_tbl := fun w h => (goodIn_r wsL_law0_r48 [884, 885, 886, 1538, 1539, 1540, 1541, 887, 888, 889, 890, 1542, 1543, 1544, 1545, 891, 892, 893, 894, 1546, 1547, 1548, 1549, 895] (by decide +kernel) (by decide +kernel) w h).1
set_option maxRecDepth 100000 in
theorem in_wsL_law0_r49 : ∀ w ∈ wsL_law0_r49, w ∈ lw_tbl := fun w h => (goodIn_r wsL_law0_r49 [896, 897, 898, 899, 901, 14, 902, 903, 904, 905, 906, 1550, 1551, 1552, 1553, 1554, 1556, 74, 1557, 1558, 1560, 75, 1561, 907] (by decide +kernel) (by decide +kernel) w h).1
set_option maxRecDepth 100000 in
theorem in_wsL_law0_r50 : ∀ w ∈ wsL_law0_r50, w ∈ lw_tbl := fun w h => (goodIn_r wsL_law0_r50 [908, 909, 910, 128, 1562, 1563, 1564, 1565, 911, 912, 913, 914, 932, 915, 917, 15, 918, 919, 921, 16, 922, 923, 925, 17] (by decide +kernel) (by decide +kernel) w h).1
set_option maxRecDepth 100000 in
theorem in_wsL_law0_r51 : ∀ w ∈ wsL_law0_r51, w ∈ lw_tbl := fun w h => (goodIn_r wsL_law0_r51 [926, 927, 929, 18, 930, 931, 933, 935, 19, 936, 1566, 1567, 1568, 1569, 1570, 1572, 76, 1573, 1574, 1576, 77, 1577, 937, 938] (by decide +kernel) (by decide +kernel) w h).1
set_option maxRecDepth 100000 in
theorem in_wsL_law0_r52 : ∀ w ∈ wsL_law0_r52, w ∈ lw_tbl := fun w h => (goodIn_r wsL_law0_r52 [939, 940, 941, 942, 943, 944, 1578, 1579, 1580, 1581, 945, 946, 947, 948, 949, 950, 951, 952, 953, 954, 955, 1582, 1583, 1584] (by decide +kernel) (by decide +kernel) w h).1
set_option maxRecDepth 100000 in
theorem in_wsL_law0_r53 : ∀ w ∈ wsL_law0_r53, w ∈ lw_tbl := fun w h => (goodIn_r wsL_law0_r53 [1585, 1094, 1586, 1588, 78, 1589, 1590, 956, 957, 958, 959, 960, 1591, 1592, 1593, 1594, 961, 962, 963, 964, 965, 966, 967, 968] (by decide +kernel) (by decide +kernel) w h).1
set_option maxRecDepth 100000 in
theorem in_wsL_law0_r54 : ∀ w ∈ wsL_law0_r54, w ∈ lw_tbl := fun w h => (goodIn_r wsL_law0_r54 [1595, 1596, 1597, 1598, 969, 970, 971, 972, 165, 200, 973, 974, 975, 976, 977, 979, 20, 980, 1599, 1600, 1601, 1602, 1603, 1605] (by decide +kernel) (by decide +kernel) w h).1
set_option maxRecDepth 100000 in
theorem in_wsL_law0_r55 : ∀ w ∈ wsL_law0_r55, w ∈ lw_tbl := fun w h => (goodIn_r wsL_law0_r55 [79, 1606, 981, 982, 81, 983, 984, 985, 986, 987, 988, 989, 108, 198, 1607, 1608, 1609, 1610, 1611, 1613, 80, 1614, 1150, 1151] (by decide +kernel) (by decide +kernel) w h).1
set_option maxRecDepth 100000 in
theorem in_wsL_law0_r56 : ∀ w ∈ wsL_law0_r56, w ∈ lw_tbl := fun w h => (goodIn_r wsL_law0_r56 [1152, 1153] (by decide +kernel) (by decide +kernel) w h).1
