/-! words of the law among those of the tables, by their places -/
set_option maxRecDepth 100000 in
theorem in_wsL_law0_r1 : ∀ w ∈ wsL_law0_r1, w ∈ lw_tbl := fun w h => (goodIn_r wsL_law0_r1 [109, 110, 82, 1054, 1055, 90, 152, 111, 112, 113, 114, 115, 116, 117, 118, 83, 275, 153, 154, 84, 276, 277, 189, 278] (by decide +kernel) (by decide +kernel) w h).1
set_option maxRecDepth 100000 in
theorem in_wsL_law0_r2 : ∀ w ∈ wsL_law0_r2, w ∈ lw_tbl := fun w h => (goodIn_r wsL_law0_r2 [173, 174, 85, 279, 191, 192, 86, 280, 206, 207, 87, 281, 227, 228, 88, 282, 244, 245, 89, 283, 120, 121, 122, 151] (by decide +kernel) (by decide +kernel) w h).1
set_option maxRecDepth 100000 in
theorem in_wsL_law0_r3 : ∀ w ∈ wsL_law0_r3, w ∈ lw_tbl := fun w h => (goodIn_r wsL_law0_r3 [123, 126, 129, 155, 156, 157, 158, 159, 162, 176, 177, 178, 190, 179, 194, 195, 196, 197, 209, 210, 211, 212, 215, 216] (by decide +kernel) (by decide +kernel) w h).1
set_option maxRecDepth 100000 in
theorem in_wsL_law0_r4 : ∀ w ∈ wsL_law0_r4, w ∈ lw_tbl := fun w h => (goodIn_r wsL_law0_r4 [217, 230, 231, 232, 233, 247, 248, 249, 250, 251, 252, 253, 254, 255, 1056, 1057, 1058, 1059, 1071, 462, 1072, 1074, 1080, 1081] (by decide +kernel) (by decide +kernel) w h).1
set_option maxRecDepth 100000 in
theorem in_wsL_law0_r5 : ∀ w ∈ wsL_law0_r5, w ∈ lw_tbl := fun w h => (goodIn_r wsL_law0_r5 [1082, 1083, 1085, 1086, 1088, 1089, 1090, 1091, 1092, 1095, 1096, 1060, 1062, 22, 1063, 1070, 1064, 1065, 1066, 1067, 1068, 1069, 303, 304] (by decide +kernel) (by decide +kernel) w h).1
set_option maxRecDepth 100000 in
theorem in_wsL_law0_r6 : ∀ w ∈ wsL_law0_r6, w ∈ lw_tbl := fun w h => (goodIn_r wsL_law0_r6 [305, 306, 181, 307, 308, 309, 310, 180, 1154, 1155, 1156, 1157, 1076, 1073, 311, 312, 313, 314, 315, 316, 317, 318, 1158, 1159] (by decide +kernel) (by decide +kernel) w h).1
set_option maxRecDepth 100000 in
theorem in_wsL_law0_r7 : ∀ w ∈ wsL_law0_r7, w ∈ lw_tbl := fun w h => (goodIn_r wsL_law0_r7 [1160, 1161, 319, 320, 321, 322, 134, 323, 325, 0, 326, 327, 328, 329, 330, 331, 332, 333, 334, 335, 336, 337, 338, 339] (by decide +kernel) (by decide +kernel) w h).1
set_option maxRecDepth 100000 in
theorem in_wsL_law0_r8 : ∀ w ∈ wsL_law0_r8, w ∈ lw_tbl := fun w h => (goodIn_r wsL_law0_r8 [340, 341, 342, 91, 343, 345, 346, 347, 92, 348, 349, 350, 351, 352, 1629, 353, 354, 355, 356, 357, 1628, 359, 360, 361] (by decide +kernel) (by decide +kernel) w h).1
set_option maxRecDepth 100000 in
theorem in_wsL_law0_r9 : ∀ w ∈ wsL_law0_r9, w ∈ lw_tbl := fun w h => (goodIn_r wsL_law0_r9 [362, 363, 364, 365, 366, 367, 368, 93, 369, 373, 374, 94, 375, 376, 377, 378, 370, 371, 372, 379, 380, 381, 382, 383] (by decide +kernel) (by decide +kernel) w h).1
set_option maxRecDepth 100000 in
theorem in_wsL_law0_r10 : ∀ w ∈ wsL_law0_r10, w ∈ lw_tbl := fun w h => (goodIn_r wsL_law0_r10 [95, 384, 385, 386, 387, 388, 389, 390, 391, 392, 393, 394, 395, 396, 397, 398, 399, 400, 402, 403, 96, 404, 405, 406] (by decide +kernel) (by decide +kernel) w h).1
set_option maxRecDepth 100000 in
theorem in_wsL_law0_r11 : ∀ w ∈ wsL_law0_r11, w ∈ lw_tbl := fun w h => (goodIn_r wsL_law0_r11 [407, 408, 409, 410, 411, 413, 415, 417, 418, 419, 420, 421, 97, 422, 423, 424, 425, 426, 427, 428, 429, 430, 431, 432] (by decide +kernel) (by decide +kernel) w h).1
set_option maxRecDepth 100000 in
theorem in_wsL_law0_r12 : ∀ w ∈ wsL_law0_r12, w ∈ lw_tbl := fun w h => (goodIn_r wsL_law0_r12 [433, 434, 163, 435, 436, 437, 438, 439, 441, 440, 98, 132, 137, 442, 443, 444, 445, 182, 452, 446, 447, 448, 449, 450] (by decide +kernel) (by decide +kernel) w h).1
set_option maxRecDepth 100000 in
theorem in_wsL_law0_r13 : ∀ w ∈ wsL_law0_r13, w ∈ lw_tbl := fun w h => (goodIn_r wsL_law0_r13 [451, 453, 454, 455, 456, 164, 457, 458, 459, 460, 461, 1162, 1163, 1164, 1165, 1078, 1077, 1079, 1166, 1168, 23, 1169, 1170, 1172] (by decide +kernel) (by decide +kernel) w h).1
set_option maxRecDepth 100000 in
theorem in_wsL_law0_r14 : ∀ w ∈ wsL_law0_r14, w ∈ lw_tbl := fun w h => (goodIn_r wsL_law0_r14 [24, 1173, 1174, 1176, 25, 1177, 1178, 1180, 26, 1181, 1182, 1184, 27, 1185, 1186, 1188, 28, 1189, 1190, 1192, 29, 1193, 1195, 1196] (by decide +kernel) (by decide +kernel) w h).1
