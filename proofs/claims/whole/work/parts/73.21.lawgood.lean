set_option maxRecDepth 20000 in
theorem ggL_law_X9_init : GoodIn wsL_law0 wsX9_init := goodIn_r _ [9, 10, 11, 12, 13, 14, 15, 16, 17, 18, 19, 20, 21, 22, 23, 24, 25, 26, 27, 28, 29, 30, 31, 32, 33, 34, 35, 36, 37, 38, 39, 40, 41, 42, 43, 44, 45, 46, 47, 48, 49, 6, 50, 51, 52, 53, 54, 55, 56, 57, 58, 59, 60, 61, 62, 63, 64, 65, 66, 67, 68, 69, 70, 71, 72, 73, 74, 75, 76, 77, 78, 79, 80, 81, 82, 83, 84, 85, 1357, 1358, 1359, 1360, 1361, 1322, 1323, 1324, 1325, 1326, 1327, 1328, 1329, 1330, 1362, 1363, 1364, 1365, 1366, 1367, 1368, 1369, 1370, 1371, 1372, 1373, 1374, 1375, 1376, 1377, 1378, 1379, 1380, 1381, 1382] (by decide +kernel) (by decide +kernel)
set_option maxRecDepth 20000 in
theorem gL_law_X9_init : GoodIn wsL_law0 (wsX9_init) := ggL_law_X9_init
set_option maxRecDepth 20000 in
theorem ggL_law_X10_init : GoodIn wsL_law0 wsX10_init := goodIn_r _ [88, 89, 11, 12, 6, 90, 91, 92, 93, 47, 94, 95, 96, 97, 98, 99, 100, 101, 102, 103, 104, 105, 22, 106, 107, 108, 109, 5, 110, 111, 112, 113, 114, 115, 116, 117, 1331, 1332, 1333, 1334, 1335, 1336, 1337, 1338, 1339, 1340, 1341, 1342, 1343, 1344, 1345, 1346, 1347, 1348, 1349, 1350, 1351, 1352, 1353, 1354, 1355, 1356] (by decide +kernel) (by decide +kernel)
set_option maxRecDepth 20000 in
theorem gL_law_X10_init : GoodIn wsL_law0 (wsX10_init) := ggL_law_X10_init
set_option maxRecDepth 20000 in
theorem ggL_law_X9_sign : GoodIn wsL_law0 wsX9_sign := goodIn_r _ [121, 27, 122, 123, 124, 125, 26, 126, 127, 61, 1322, 1323, 1324, 1325, 1326, 1327, 1328, 1329, 1330, 1365, 1366] (by decide +kernel) (by decide +kernel)
set_option maxRecDepth 20000 in
theorem gL_law_X9_sign : GoodIn wsL_law0 (wsV RL 19 RX9 yX9_sign wsX9_sign) := goodIn_app (goodIn_of _ (by decide +kernel)) ggL_law_X9_sign
set_option maxRecDepth 20000 in
theorem ggL_law_X10_sign : GoodIn wsL_law0 wsX10_sign := goodIn_r _ [131, 132, 133, 92, 1331, 1332, 1333, 1334, 1335, 1336, 1337, 1338, 1339, 1340, 1341, 1342, 1343, 1344, 1345, 1346, 1347, 1348, 1349, 1350, 1351, 1352, 1353, 1354, 1355, 1356] (by decide +kernel) (by decide +kernel)
set_option maxRecDepth 20000 in
theorem gL_law_X10_sign : GoodIn wsL_law0 (wsV RL 23 RX10 yX10_sign wsX10_sign) := goodIn_app (goodIn_of _ (by decide +kernel)) ggL_law_X10_sign
set_option maxRecDepth 20000 in
theorem ggL_law_X9_end : GoodIn wsL_law0 wsX9_end := goodIn_r _ [137, 27, 138, 139, 140, 26, 141, 127, 1322, 1323, 1324, 1325, 1326, 1327, 1328, 1329, 1330, 1365, 1366] (by decide +kernel) (by decide +kernel)
set_option maxRecDepth 20000 in
theorem gL_law_X9_end : GoodIn wsL_law0 (wsV RL 24 RX9 yX9_end wsX9_end) := goodIn_app (goodIn_of _ (by decide +kernel)) ggL_law_X9_end
set_option maxRecDepth 20000 in
theorem ggL_law_X10_end : GoodIn wsL_law0 wsX10_end := goodIn_r _ [145, 132, 133, 115, 116, 5, 117, 1331, 1332, 1333, 1334, 1335, 1336, 1337, 1338, 1339, 1340, 1341, 1342, 1343, 1344, 1345, 1346, 1347, 1348, 1349, 1350, 1351, 1352, 1353, 1354, 1355, 1356] (by decide +kernel) (by decide +kernel)
set_option maxRecDepth 20000 in
theorem gL_law_X10_end : GoodIn wsL_law0 (wsV RL 28 RX10 yX10_end wsX10_end) := goodIn_app (goodIn_of _ (by decide +kernel)) ggL_law_X10_end
set_option maxRecDepth 20000 in
theorem ggL_law_X9_table : GoodIn wsL_law0 wsX9_table := goodIn_r _ [149, 20, 16, 27, 150, 151, 152, 153, 2, 154, 122, 155, 156, 157, 26, 158, 159, 160, 161, 162, 127, 61, 163, 164, 165, 166, 167, 168, 169, 170, 171, 172, 173, 174, 175, 176, 177, 178, 179, 180, 181, 182, 183, 184, 185, 186, 187, 188, 189, 190, 191, 192, 193, 194, 195, 196, 197, 198, 199, 200, 201, 202, 203, 204, 205, 206, 207, 208, 209, 210, 211, 212, 213, 214, 215, 216, 217, 218, 219, 220, 221, 222, 223, 224, 225, 226, 227, 228, 229, 230, 231, 232, 233, 234, 235, 236, 237, 238, 239, 240, 241, 242, 243, 244, 245, 246, 247, 248, 249, 250, 251, 252, 253, 254, 255, 256, 257, 258, 259, 260, 261, 262, 263, 264, 19, 265, 56, 266, 267, 268, 269, 15, 270, 48, 271, 272, 273, 274, 49, 50, 275, 276, 277, 278, 279, 280, 281, 282, 283, 284, 285, 286, 287, 288, 289, 290, 291, 292, 293, 294, 295, 296, 297, 298, 1322, 1323, 1324, 1325, 1326, 1327, 1328, 1329, 1330, 1357, 1358, 1359, 1360, 1361, 1365, 1366, 1362, 1363, 1364] (by decide +kernel) (by decide +kernel)
set_option maxRecDepth 20000 in
theorem gL_law_X9_table : GoodIn wsL_law0 (wsV RL 29 RX9 yX9_table wsX9_table) := goodIn_app (goodIn_of _ (by decide +kernel)) ggL_law_X9_table
set_option maxRecDepth 20000 in
theorem ggL_law_X10_table : GoodIn wsL_law0 wsX10_table := goodIn_r _ [302, 132, 303, 304, 94, 305, 306, 307, 308, 5, 309, 133, 310, 311, 312, 313, 314, 315, 316, 317, 92, 318, 319, 320, 321, 322, 323, 324, 325, 115, 116, 117, 326, 327, 328, 329, 330, 331, 332, 333, 334, 190, 191, 176, 192, 182, 193, 194, 195, 196, 187, 188, 335, 336, 337, 338, 183, 184, 185, 186, 339, 340, 199, 341, 342, 343, 344, 233, 345, 346, 236, 347, 348, 349, 216, 350, 351, 352, 353, 227, 228, 229, 354, 241, 242, 243, 244, 245, 246, 355, 356, 357, 358, 359, 360, 361, 362, 363, 364, 365, 366, 104, 90, 367, 368, 369, 370, 371, 103, 107, 108, 109, 110, 111, 112, 113, 114, 1331, 1332, 1333, 1334, 1335, 1336, 1337, 1338, 1339, 1340, 1341, 1342, 1343, 1344, 1345, 1346, 1347, 1348, 1349, 1350, 1351, 1352, 1353, 1354, 1355, 1356] (by decide +kernel) (by decide +kernel)
set_option maxRecDepth 20000 in
theorem gL_law_X10_table : GoodIn wsL_law0 (wsV RL 33 RX10 yX10_table wsX10_table) := goodIn_app (goodIn_of _ (by decide +kernel)) ggL_law_X10_table
set_option maxRecDepth 20000 in
theorem ggL_law_X9_sheet : GoodIn wsL_law0 wsX9_sheet := goodIn_r _ [375, 16, 376, 377, 378, 15, 379, 275, 380, 381, 171, 382, 383, 384, 385, 386, 387, 2, 388, 389, 390, 391, 392, 393, 394, 395, 396, 48, 397, 398, 399, 400, 401, 402, 403, 404, 405, 406, 407, 408, 409, 276, 410, 411, 412, 413, 414, 415, 416, 417, 418, 419, 420, 421, 422, 423, 424, 425, 426, 427, 428, 429, 430, 431, 432, 433, 434, 435, 436, 437, 438, 439, 440, 441, 442, 443, 444, 445, 446, 447, 448, 449, 450, 451, 452, 453, 454, 455, 50, 456, 457, 458, 459, 460, 461, 462, 463, 464, 465, 1322, 1323, 1324, 1325, 1326, 1327, 1328, 1329, 1330, 1357, 1358, 1359, 1360, 1361] (by decide +kernel) (by decide +kernel)
set_option maxRecDepth 20000 in
theorem gL_law_X9_sheet : GoodIn wsL_law0 (wsV RL 34 RX9 yX9_sheet wsX9_sheet) := goodIn_app (goodIn_of _ (by decide +kernel)) ggL_law_X9_sheet
set_option maxRecDepth 20000 in
theorem ggL_law_X10_sheet : GoodIn wsL_law0 wsX10_sheet := goodIn_r _ [469, 132, 470, 471, 472, 5, 473, 474, 475, 476, 477, 90, 115, 116, 117, 478, 479, 480, 481, 482, 483, 484, 485, 486, 487, 488, 489, 490, 491, 492, 493, 494, 495, 496, 497, 498, 499, 500, 501, 502, 503, 504, 505, 506, 507, 508, 509, 510, 511, 512, 513, 514, 515, 516, 517, 518, 111, 519, 520, 521, 522, 523, 524, 525, 526, 527, 528, 529, 530, 531, 532, 533, 534, 535, 536, 537, 538, 539, 540, 541, 542, 543, 544, 545, 546, 547, 548, 549, 550, 551, 552, 553, 554, 555, 556, 112, 113, 114, 557, 558, 559, 560, 561, 562, 1331, 1332, 1333, 1334, 1335, 1336, 1337, 1338, 1339, 1340, 1341, 1342, 1343, 1344, 1345, 1346, 1347, 1348, 1349, 1350, 1351, 1352, 1353, 1354, 1355, 1356] (by decide +kernel) (by decide +kernel)
set_option maxRecDepth 20000 in
theorem gL_law_X10_sheet : GoodIn wsL_law0 (wsV RL 38 RX10 yX10_sheet wsX10_sheet) := goodIn_app (goodIn_of _ (by decide +kernel)) ggL_law_X10_sheet
