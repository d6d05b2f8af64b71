set_option maxRecDepth 20000 in
theorem gX9_tellOrder_X0_add : GoodIn wsX9_tellOrder (wsV RX9 249 RX0 yX0_add wsX0_add) := goodIn_app (goodIn_of _ (by decide +kernel)) ggX9_tellOrder_X0_add
theorem dX9_tellOrder_0 : decode cX9_tellOrder 0 = .ok (.aload_n 0, 1) := by decide +kernel
theorem dX9_tellOrder_1 : decode cX9_tellOrder 1 = .ok (.getfield 41, 3) := by decide +kernel
theorem dX9_tellOrder_4 : decode cX9_tellOrder 4 = .ok (.invokevirtual 245, 3) := by decide +kernel
theorem dX9_tellOrder_7 : decode cX9_tellOrder 7 = .ok (.iconst 0, 1) := by decide +kernel
theorem dX9_tellOrder_8 : decode cX9_tellOrder 8 = .ok (.istore_n 1, 1) := by decide +kernel
theorem dX9_tellOrder_9 : decode cX9_tellOrder 9 = .ok (.iload_n 1, 1) := by decide +kernel
theorem dX9_tellOrder_10 : decode cX9_tellOrder 10 = .ok (.aload_n 0, 1) := by decide +kernel
theorem dX9_tellOrder_11 : decode cX9_tellOrder 11 = .ok (.getfield 55, 3) := by decide +kernel
theorem dX9_tellOrder_14 : decode cX9_tellOrder 14 = .ok (.getfield 237, 3) := by decide +kernel
theorem dX9_tellOrder_17 : decode cX9_tellOrder 17 = .ok (.if_icmp .ge 26, 3) := by decide +kernel
theorem dX9_tellOrder_20 : decode cX9_tellOrder 20 = .ok (.aload_n 0, 1) := by decide +kernel
theorem dX9_tellOrder_21 : decode cX9_tellOrder 21 = .ok (.getfield 41, 3) := by decide +kernel
theorem dX9_tellOrder_24 : decode cX9_tellOrder 24 = .ok (.aload_n 0, 1) := by decide +kernel
theorem dX9_tellOrder_25 : decode cX9_tellOrder 25 = .ok (.getfield 55, 3) := by decide +kernel
theorem dX9_tellOrder_28 : decode cX9_tellOrder 28 = .ok (.getfield 238, 3) := by decide +kernel
theorem dX9_tellOrder_31 : decode cX9_tellOrder 31 = .ok (.iload_n 1, 1) := by decide +kernel
theorem dX9_tellOrder_32 : decode cX9_tellOrder 32 = .ok (.iaload, 1) := by decide +kernel
theorem dX9_tellOrder_33 : decode cX9_tellOrder 33 = .ok (.i2l, 1) := by decide +kernel
theorem dX9_tellOrder_34 : decode cX9_tellOrder 34 = .ok (.invokevirtual 249, 3) := by decide +kernel
theorem dX9_tellOrder_37 : decode cX9_tellOrder 37 = .ok (.iinc 1 1, 3) := by decide +kernel
theorem dX9_tellOrder_40 : decode cX9_tellOrder 40 = .ok (.goto (-31), 3) := by decide +kernel
theorem dX9_tellOrder_43 : decode cX9_tellOrder 43 = .ok (.return_, 1) := by decide +kernel
set_option maxRecDepth 20000 in
theorem ggX9_best_X2_readProper : GoodIn wsX9_best wsX2_readProper := goodIn_r _ [10, 11, 12, 13, 14, 15, 9, 16, 17, 18, 19, 20, 21, 22, 23, 24, 25, 26, 27, 28, 159, 160, 161, 162, 163, 164, 165] (by decide +kernel) (by decide +kernel)
set_option maxRecDepth 20000 in
theorem gX9_best_X2_readProper : GoodIn wsX9_best (wsV RX9 269 RX2 yX2_readProper wsX2_readProper) := goodIn_app (goodIn_of _ (by decide +kernel)) ggX9_best_X2_readProper
set_option maxRecDepth 20000 in
theorem ggX9_best_X6_readAll : GoodIn wsX9_best wsX6_readAll := goodIn_r _ [33, 34, 35, 19, 20, 21, 22, 23, 24, 25, 26, 27, 28, 36, 37, 38, 32, 39, 40, 41, 42, 43, 44, 45, 46, 47, 48, 49, 50, 51, 52, 53, 54, 55, 56, 57, 58, 59, 60, 61, 62, 63, 64, 65, 66, 67, 68, 69, 70, 161, 162, 163, 164, 165, 166, 167, 168, 169] (by decide +kernel) (by decide +kernel)
set_option maxRecDepth 20000 in
theorem gX9_best_X6_readAll : GoodIn wsX9_best (wsV RX9 230 RX6 yX6_readAll wsX6_readAll) := goodIn_app (goodIn_of _ (by decide +kernel)) ggX9_best_X6_readAll
set_option maxRecDepth 20000 in
theorem ggX9_best_X4_read : GoodIn wsX9_best wsX4_read := goodIn_r _ [75, 76, 77, 78, 79, 80, 81, 82, 83, 21, 84, 28, 85, 19, 20, 22, 23, 24, 25, 26, 27, 86, 87, 88, 89, 90, 91, 92, 93, 94, 95, 96, 97, 98, 99, 100, 101, 47, 48, 49, 50, 161, 162, 163, 164, 165, 170, 171, 172, 173, 174, 175, 176, 177] (by decide +kernel) (by decide +kernel)
set_option maxRecDepth 20000 in
theorem gX9_best_X4_read : GoodIn wsX9_best (wsV RX9 255 RX4 yX4_read wsX4_read) := goodIn_app (goodIn_of _ (by decide +kernel)) ggX9_best_X4_read
set_option maxRecDepth 20000 in
theorem ggX9_best_X4_sortBy : GoodIn wsX9_best wsX4_sortBy := goodIn_r _ [105, 77, 106, 79, 107, 108, 74, 109, 110, 111, 112, 113, 114, 32, 115, 45, 170, 171, 172, 173, 174, 175, 176, 177, 159, 160, 166, 167, 168, 169] (by decide +kernel) (by decide +kernel)
set_option maxRecDepth 20000 in
theorem gX9_best_X4_sortBy : GoodIn wsX9_best (wsV RX9 261 RX4 yX4_sortBy wsX4_sortBy) := goodIn_app (goodIn_of _ (by decide +kernel)) ggX9_best_X4_sortBy
set_option maxRecDepth 20000 in
theorem ggX9_best_X4_runsOfLine : GoodIn wsX9_best wsX4_runsOfLine := goodIn_r _ [119, 77, 78, 120, 121, 122, 74, 123, 80, 79, 170, 171, 172, 173, 174, 175, 176, 177] (by decide +kernel) (by decide +kernel)
set_option maxRecDepth 20000 in
theorem gX9_best_X4_runsOfLine : GoodIn wsX9_best (wsV RX9 258 RX4 yX4_runsOfLine wsX4_runsOfLine) := goodIn_app (goodIn_of _ (by decide +kernel)) ggX9_best_X4_runsOfLine
set_option maxRecDepth 20000 in
theorem ggX9_best_X9_tellOrder : GoodIn wsX9_best wsX9_tellOrder := goodIn_r _ [128, 129, 1, 3, 130, 131, 132, 133, 134, 135, 136, 137, 138, 139, 140, 141, 150, 151, 152, 153, 154, 155, 156, 157, 158, 159, 160, 178, 179] (by decide +kernel) (by decide +kernel)
set_option maxRecDepth 20000 in
theorem gX9_best_X9_tellOrder : GoodIn wsX9_best (wsV RX9 276 RX9 yX9_tellOrder wsX9_tellOrder) := goodIn_app (goodIn_of _ (by decide +kernel)) ggX9_best_X9_tellOrder
set_option maxRecDepth 20000 in
theorem ggX9_best_X2_stepOn : GoodIn wsX9_best wsX2_stepOn := goodIn_r _ [145, 11, 17, 146, 147, 148, 9, 149, 159, 160] (by decide +kernel) (by decide +kernel)
set_option maxRecDepth 20000 in
theorem gX9_best_X2_stepOn : GoodIn wsX9_best (wsV RX9 279 RX2 yX2_stepOn wsX2_stepOn) := goodIn_app (goodIn_of _ (by decide +kernel)) ggX9_best_X2_stepOn
theorem dX9_best_0 : decode cX9_best 0 = .ok (.aload_n 0, 1) := by decide +kernel
theorem dX9_best_1 : decode cX9_best 1 = .ok (.getfield 55, 3) := by decide +kernel
theorem dX9_best_4 : decode cX9_best 4 = .ok (.aload_n 0, 1) := by decide +kernel
theorem dX9_best_5 : decode cX9_best 5 = .ok (.getfield 12, 3) := by decide +kernel
theorem dX9_best_8 : decode cX9_best 8 = .ok (.invokevirtual 269, 3) := by decide +kernel
theorem dX9_best_11 : decode cX9_best 11 = .ok (.aload_n 0, 1) := by decide +kernel
theorem dX9_best_12 : decode cX9_best 12 = .ok (.getfield 55, 3) := by decide +kernel
theorem dX9_best_15 : decode cX9_best 15 = .ok (.getfield 237, 3) := by decide +kernel
theorem dX9_best_18 : decode cX9_best 18 = .ok (.ifCond .eq 14, 3) := by decide +kernel
theorem dX9_best_21 : decode cX9_best 21 = .ok (.aload_n 0, 1) := by decide +kernel
theorem dX9_best_22 : decode cX9_best 22 = .ok (.getfield 55, 3) := by decide +kernel
theorem dX9_best_25 : decode cX9_best 25 = .ok (.getfield 237, 3) := by decide +kernel
theorem dX9_best_28 : decode cX9_best 28 = .ok (.iconst 5, 1) := by decide +kernel
theorem dX9_best_29 : decode cX9_best 29 = .ok (.if_icmp .le 6, 3) := by decide +kernel
theorem dX9_best_32 : decode cX9_best 32 = .ok (.bipush (-2), 2) := by decide +kernel
theorem dX9_best_34 : decode cX9_best 34 = .ok (.ireturn, 1) := by decide +kernel
theorem dX9_best_35 : decode cX9_best 35 = .ok (.aload_n 0, 1) := by decide +kernel
theorem dX9_best_36 : decode cX9_best 36 = .ok (.getfield 48, 3) := by decide +kernel
theorem dX9_best_39 : decode cX9_best 39 = .ok (.aload_n 0, 1) := by decide +kernel
theorem dX9_best_40 : decode cX9_best 40 = .ok (.getfield 12, 3) := by decide +kernel
theorem dX9_best_43 : decode cX9_best 43 = .ok (.invokevirtual 230, 3) := by decide +kernel
theorem dX9_best_46 : decode cX9_best 46 = .ok (.aload_n 0, 1) := by decide +kernel
theorem dX9_best_47 : decode cX9_best 47 = .ok (.getfield 62, 3) := by decide +kernel
theorem dX9_best_50 : decode cX9_best 50 = .ok (.aload_n 0, 1) := by decide +kernel
theorem dX9_best_51 : decode cX9_best 51 = .ok (.getfield 12, 3) := by decide +kernel
theorem dX9_best_54 : decode cX9_best 54 = .ok (.invokevirtual 255, 3) := by decide +kernel
theorem dX9_best_57 : decode cX9_best 57 = .ok (.bipush 97, 2) := by decide +kernel
theorem dX9_best_59 : decode cX9_best 59 = .ok (.istore_n 2, 1) := by decide +kernel
theorem dX9_best_60 : decode cX9_best 60 = .ok (.iconst 1, 1) := by decide +kernel
theorem dX9_best_61 : decode cX9_best 61 = .ok (.istore_n 3, 1) := by decide +kernel
theorem dX9_best_62 : decode cX9_best 62 = .ok (.iconst 0, 1) := by decide +kernel
theorem dX9_best_63 : decode cX9_best 63 = .ok (.istore 4, 2) := by decide +kernel
theorem dX9_best_65 : decode cX9_best 65 = .ok (.iload_n 3, 1) := by decide +kernel
theorem dX9_best_66 : decode cX9_best 66 = .ok (.ifCond .eq 63, 3) := by decide +kernel
theorem dX9_best_69 : decode cX9_best 69 = .ok (.iload 4, 2) := by decide +kernel
theorem dX9_best_71 : decode cX9_best 71 = .ok (.bipush 120, 2) := by decide +kernel
theorem dX9_best_73 : decode cX9_best 73 = .ok (.if_icmp .ge 56, 3) := by decide +kernel
theorem dX9_best_76 : decode cX9_best 76 = .ok (.aload_n 0, 1) := by decide +kernel
theorem dX9_best_77 : decode cX9_best 77 = .ok (.getfield 62, 3) := by decide +kernel
theorem dX9_best_80 : decode cX9_best 80 = .ok (.aload_n 0, 1) := by decide +kernel
theorem dX9_best_81 : decode cX9_best 81 = .ok (.getfield 55, 3) := by decide +kernel
theorem dX9_best_84 : decode cX9_best 84 = .ok (.aload_n 0, 1) := by decide +kernel
theorem dX9_best_85 : decode cX9_best 85 = .ok (.getfield 48, 3) := by decide +kernel
theorem dX9_best_88 : decode cX9_best 88 = .ok (.iload_n 1, 1) := by decide +kernel
theorem dX9_best_89 : decode cX9_best 89 = .ok (.invokevirtual 261, 3) := by decide +kernel
theorem dX9_best_92 : decode cX9_best 92 = .ok (.aload_n 0, 1) := by decide +kernel
theorem dX9_best_93 : decode cX9_best 93 = .ok (.getfield 62, 3) := by decide +kernel
theorem dX9_best_96 : decode cX9_best 96 = .ok (.invokevirtual 258, 3) := by decide +kernel
theorem dX9_best_99 : decode cX9_best 99 = .ok (.iload_n 2, 1) := by decide +kernel
theorem dX9_best_100 : decode cX9_best 100 = .ok (.if_icmp .ge 15, 3) := by decide +kernel
theorem dX9_best_103 : decode cX9_best 103 = .ok (.aload_n 0, 1) := by decide +kernel
theorem dX9_best_104 : decode cX9_best 104 = .ok (.getfield 62, 3) := by decide +kernel
theorem dX9_best_107 : decode cX9_best 107 = .ok (.invokevirtual 258, 3) := by decide +kernel
theorem dX9_best_110 : decode cX9_best 110 = .ok (.istore_n 2, 1) := by decide +kernel
theorem dX9_best_111 : decode cX9_best 111 = .ok (.aload_n 0, 1) := by decide +kernel
theorem dX9_best_112 : decode cX9_best 112 = .ok (.invokevirtual 276, 3) := by decide +kernel
theorem dX9_best_115 : decode cX9_best 115 = .ok (.aload_n 0, 1) := by decide +kernel
theorem dX9_best_116 : decode cX9_best 116 = .ok (.getfield 55, 3) := by decide +kernel
theorem dX9_best_119 : decode cX9_best 119 = .ok (.invokevirtual 279, 3) := by decide +kernel
theorem dX9_best_122 : decode cX9_best 122 = .ok (.istore_n 3, 1) := by decide +kernel
theorem dX9_best_123 : decode cX9_best 123 = .ok (.iinc 4 1, 3) := by decide +kernel
theorem dX9_best_126 : decode cX9_best 126 = .ok (.goto (-61), 3) := by decide +kernel
theorem dX9_best_129 : decode cX9_best 129 = .ok (.iload_n 2, 1) := by decide +kernel
theorem dX9_best_130 : decode cX9_best 130 = .ok (.ireturn, 1) := by decide +kernel
set_option maxRecDepth 20000 in
theorem ggX9_tours_X5_note : GoodIn wsX9_tours wsX5_note := goodIn_r _ [8, 9, 10, 11, 12, 13, 14, 15, 16, 17, 18, 19, 20, 21, 22, 23, 24, 163, 164, 165, 166, 167, 168, 169, 170] (by decide +kernel) (by decide +kernel)
set_option maxRecDepth 20000 in
theorem gX9_tours_X5_note : GoodIn wsX9_tours (wsV RX9 81 RX5 yX5_note wsX5_note) := goodIn_app (goodIn_of _ (by decide +kernel)) ggX9_tours_X5_note
set_option maxRecDepth 20000 in
theorem ggX9_tours_X9_tourTold : GoodIn wsX9_tours wsX9_tourTold := goodIn_r _ [29, 30, 2, 31, 32, 28, 33, 34, 35, 36, 37, 38, 39, 40, 41, 42, 43, 44, 45, 46, 14, 47, 23, 48, 49, 50, 51, 16, 52, 53, 54, 55, 56, 57, 58, 59, 60, 61, 62, 63, 64, 65, 66, 67, 68, 69, 70, 71, 72, 73, 74, 22, 75, 76, 77, 78, 79, 80, 81, 82, 83, 84, 85, 86, 87, 88, 89, 90, 91, 18, 19, 20, 92, 93, 94, 95, 96, 97, 98, 99, 100, 101, 102, 103, 104, 105, 106, 107, 108, 109, 110, 111, 112, 113, 114, 115, 116, 154, 155, 156, 157, 158, 159, 160, 161, 162, 166, 167, 168, 169, 170, 171, 172, 173, 174, 175, 176, 177, 178] (by decide +kernel) (by decide +kernel)
set_option maxRecDepth 20000 in
theorem gX9_tours_X9_tourTold : GoodIn wsX9_tours (wsV RX9 283 RX9 yX9_tourTold wsX9_tourTold) := goodIn_app (goodIn_of _ (by decide +kernel)) ggX9_tours_X9_tourTold
set_option maxRecDepth 20000 in
theorem ggX9_tours_X9_heldIfDone : GoodIn wsX9_tours wsX9_heldIfDone := goodIn_r _ [120, 1, 121, 122, 123, 7, 124, 10, 125, 126, 80, 81, 82, 154, 155, 156, 157, 158, 159, 160, 161, 162, 163, 164, 165] (by decide +kernel) (by decide +kernel)
set_option maxRecDepth 20000 in
theorem gX9_tours_X9_heldIfDone : GoodIn wsX9_tours (wsV RX9 129 RX9 yX9_heldIfDone wsX9_heldIfDone) := goodIn_app (goodIn_of _ (by decide +kernel)) ggX9_tours_X9_heldIfDone
set_option maxRecDepth 20000 in
theorem ggX9_tours_X8_runsOfAll : GoodIn wsX9_tours wsX8_runsOfAll := goodIn_r _ [130, 23, 48, 49, 50, 14, 51, 16, 52, 53, 54, 55, 131, 132, 133, 134, 24, 135, 136, 137, 138, 67, 68, 69, 70, 71, 72, 73, 74, 22, 166, 167, 168, 169, 170] (by decide +kernel) (by decide +kernel)
set_option maxRecDepth 20000 in
theorem gX9_tours_X8_runsOfAll : GoodIn wsX9_tours (wsV RX9 215 RX8 yX8_runsOfAll wsX8_runsOfAll) := goodIn_app (goodIn_of _ (by decide +kernel)) ggX9_tours_X8_runsOfAll
set_option maxRecDepth 20000 in
theorem ggX9_tours_X0_tell : GoodIn wsX9_tours wsX0_tell := goodIn_r _ [143, 144, 145, 146, 142, 147, 148, 149, 150, 151, 152, 153, 179, 180] (by decide +kernel) (by decide +kernel)
set_option maxRecDepth 20000 in
theorem gX9_tours_X0_tell : GoodIn wsX9_tours (wsV RX9 157 RX0 yX0_tell wsX0_tell) := goodIn_app (goodIn_of _ (by decide +kernel)) ggX9_tours_X0_tell
theorem dX9_tours_0 : decode cX9_tours 0 = .ok (.aload_n 0, 1) := by decide +kernel
theorem dX9_tours_1 : decode cX9_tours 1 = .ok (.getfield 19, 3) := by decide +kernel
theorem dX9_tours_4 : decode cX9_tours 4 = .ok (.aload_n 0, 1) := by decide +kernel
theorem dX9_tours_5 : decode cX9_tours 5 = .ok (.getfield 12, 3) := by decide +kernel
theorem dX9_tours_8 : decode cX9_tours 8 = .ok (.invokevirtual 81, 3) := by decide +kernel
theorem dX9_tours_11 : decode cX9_tours 11 = .ok (.aload_n 0, 1) := by decide +kernel
theorem dX9_tours_12 : decode cX9_tours 12 = .ok (.aload_n 0, 1) := by decide +kernel
theorem dX9_tours_13 : decode cX9_tours 13 = .ok (.iload_n 1, 1) := by decide +kernel
theorem dX9_tours_14 : decode cX9_tours 14 = .ok (.invokevirtual 283, 3) := by decide +kernel
theorem dX9_tours_17 : decode cX9_tours 17 = .ok (.invokevirtual 129, 3) := by decide +kernel
theorem dX9_tours_20 : decode cX9_tours 20 = .ok (.istore_n 2, 1) := by decide +kernel
theorem dX9_tours_21 : decode cX9_tours 21 = .ok (.iload_n 2, 1) := by decide +kernel
theorem dX9_tours_22 : decode cX9_tours 22 = .ok (.ifCond .lt 18, 3) := by decide +kernel
theorem dX9_tours_25 : decode cX9_tours 25 = .ok (.aload_n 0, 1) := by decide +kernel
theorem dX9_tours_26 : decode cX9_tours 26 = .ok (.getfield 41, 3) := by decide +kernel
theorem dX9_tours_29 : decode cX9_tours 29 = .ok (.aload_n 0, 1) := by decide +kernel
theorem dX9_tours_30 : decode cX9_tours 30 = .ok (.getfield 12, 3) := by decide +kernel
theorem dX9_tours_33 : decode cX9_tours 33 = .ok (.invokevirtual 215, 3) := by decide +kernel
theorem dX9_tours_36 : decode cX9_tours 36 = .ok (.i2l, 1) := by decide +kernel
theorem dX9_tours_37 : decode cX9_tours 37 = .ok (.invokevirtual 157, 3) := by decide +kernel
theorem dX9_tours_40 : decode cX9_tours 40 = .ok (.iload_n 2, 1) := by decide +kernel
theorem dX9_tours_41 : decode cX9_tours 41 = .ok (.ireturn, 1) := by decide +kernel
theorem dX9_isBlock_0 : decode cX9_isBlock 0 = .ok (.iload_n 0, 1) := by decide +kernel
theorem dX9_isBlock_1 : decode cX9_isBlock 1 = .ok (.iconst 2, 1) := by decide +kernel
theorem dX9_isBlock_2 : decode cX9_isBlock 2 = .ok (.if_icmp .lt 13, 3) := by decide +kernel
theorem dX9_isBlock_5 : decode cX9_isBlock 5 = .ok (.iload_n 0, 1) := by decide +kernel
theorem dX9_isBlock_6 : decode cX9_isBlock 6 = .ok (.bipush 16, 2) := by decide +kernel
theorem dX9_isBlock_8 : decode cX9_isBlock 8 = .ok (.if_icmp .gt 7, 3) := by decide +kernel
theorem dX9_isBlock_11 : decode cX9_isBlock 11 = .ok (.iconst 1, 1) := by decide +kernel
theorem dX9_isBlock_12 : decode cX9_isBlock 12 = .ok (.goto 4, 3) := by decide +kernel
theorem dX9_isBlock_15 : decode cX9_isBlock 15 = .ok (.iconst 0, 1) := by decide +kernel
theorem dX9_isBlock_16 : decode cX9_isBlock 16 = .ok (.ireturn, 1) := by decide +kernel
set_option maxRecDepth 20000 in
theorem ggX9_tourTold_X9_isBlock : GoodIn wsX9_tourTold wsX9_isBlock := goodIn_r _ [6] (by decide +kernel) (by decide +kernel)
set_option maxRecDepth 20000 in
theorem gX9_tourTold_X9_isBlock : GoodIn wsX9_tourTold (va_wsS RX9 286 yX9_isBlock wsX9_isBlock) := goodIn_app (goodIn_of _ (by decide +kernel)) ggX9_tourTold_X9_isBlock
set_option maxRecDepth 20000 in
theorem ggX9_tourTold_X4_read : GoodIn wsX9_tourTold wsX4_read := goodIn_r _ [11, 12, 13, 14, 15, 16, 17, 18, 19, 20, 21, 22, 23, 24, 25, 26, 27, 28, 29, 30, 31, 32, 33, 34, 35, 36, 37, 38, 39, 40, 41, 42, 43, 44, 45, 46, 47, 48, 49, 50, 51, 106, 107, 108, 109, 110, 111, 112, 113, 114, 115, 116, 117, 118] (by decide +kernel) (by decide +kernel)
set_option maxRecDepth 20000 in
theorem gX9_tourTold_X4_read : GoodIn wsX9_tourTold (wsV RX9 255 RX4 yX4_read wsX4_read) := goodIn_app (goodIn_of _ (by decide +kernel)) ggX9_tourTold_X4_read
set_option maxRecDepth 20000 in
theorem ggX9_tourTold_X4_tourBlocks : GoodIn wsX9_tourTold wsX4_tourBlocks := goodIn_r _ [55, 13, 56, 57, 58, 59, 60, 61, 62, 63, 64, 65, 10, 66, 15, 67, 68, 69, 70, 71, 72, 73, 74, 75, 14, 76, 77, 78, 79, 16, 80, 81, 82, 83, 84, 85, 86, 87, 111, 112, 113, 114, 115, 116, 117, 118] (by decide +kernel) (by decide +kernel)
set_option maxRecDepth 20000 in
theorem gX9_tourTold_X4_tourBlocks : GoodIn wsX9_tourTold (wsV RX9 289 RX4 yX4_tourBlocks wsX4_tourBlocks) := goodIn_app (goodIn_of _ (by decide +kernel)) ggX9_tourTold_X4_tourBlocks
set_option maxRecDepth 20000 in
theorem ggX9_tourTold_X4_carryOut : GoodIn wsX9_tourTold wsX4_carryOut := goodIn_r _ [91, 92, 13, 93, 94, 15, 68, 69, 70, 71, 95, 96, 106, 107, 108, 109, 110, 111, 112, 113, 114, 115, 116, 117, 118] (by decide +kernel) (by decide +kernel)
set_option maxRecDepth 20000 in
theorem gX9_tourTold_X4_carryOut : GoodIn wsX9_tourTold (wsV RX9 265 RX4 yX4_carryOut wsX4_carryOut) := goodIn_app (goodIn_of _ (by decide +kernel)) ggX9_tourTold_X4_carryOut
theorem dX9_tourTold_0 : decode cX9_tourTold 0 = .ok (.iload_n 1, 1) := by decide +kernel
theorem dX9_tourTold_1 : decode cX9_tourTold 1 = .ok (.invokestatic 286, 3) := by decide +kernel
theorem dX9_tourTold_4 : decode cX9_tourTold 4 = .ok (.ifCond .ne 5, 3) := by decide +kernel
theorem dX9_tourTold_7 : decode cX9_tourTold 7 = .ok (.iconst (-1), 1) := by decide +kernel
theorem dX9_tourTold_8 : decode cX9_tourTold 8 = .ok (.ireturn, 1) := by decide +kernel
theorem dX9_tourTold_9 : decode cX9_tourTold 9 = .ok (.aload_n 0, 1) := by decide +kernel
theorem dX9_tourTold_10 : decode cX9_tourTold 10 = .ok (.getfield 62, 3) := by decide +kernel
theorem dX9_tourTold_13 : decode cX9_tourTold 13 = .ok (.aload_n 0, 1) := by decide +kernel
theorem dX9_tourTold_14 : decode cX9_tourTold 14 = .ok (.getfield 12, 3) := by decide +kernel
theorem dX9_tourTold_17 : decode cX9_tourTold 17 = .ok (.invokevirtual 255, 3) := by decide +kernel
theorem dX9_tourTold_20 : decode cX9_tourTold 20 = .ok (.aload_n 0, 1) := by decide +kernel
theorem dX9_tourTold_21 : decode cX9_tourTold 21 = .ok (.getfield 62, 3) := by decide +kernel
theorem dX9_tourTold_24 : decode cX9_tourTold 24 = .ok (.iload_n 1, 1) := by decide +kernel
theorem dX9_tourTold_25 : decode cX9_tourTold 25 = .ok (.invokevirtual 289, 3) := by decide +kernel
theorem dX9_tourTold_28 : decode cX9_tourTold 28 = .ok (.istore_n 2, 1) := by decide +kernel
theorem dX9_tourTold_29 : decode cX9_tourTold 29 = .ok (.aload_n 0, 1) := by decide +kernel
theorem dX9_tourTold_30 : decode cX9_tourTold 30 = .ok (.getfield 62, 3) := by decide +kernel
theorem dX9_tourTold_33 : decode cX9_tourTold 33 = .ok (.aload_n 0, 1) := by decide +kernel
theorem dX9_tourTold_34 : decode cX9_tourTold 34 = .ok (.getfield 12, 3) := by decide +kernel
theorem dX9_tourTold_37 : decode cX9_tourTold 37 = .ok (.invokevirtual 265, 3) := by decide +kernel
theorem dX9_tourTold_40 : decode cX9_tourTold 40 = .ok (.pop, 1) := by decide +kernel
theorem dX9_tourTold_41 : decode cX9_tourTold 41 = .ok (.iload_n 2, 1) := by decide +kernel
theorem dX9_tourTold_42 : decode cX9_tourTold 42 = .ok (.ireturn, 1) := by decide +kernel
set_option maxRecDepth 20000 in
theorem ggX9_swaps_X5_note : GoodIn wsX9_swaps wsX5_note := goodIn_r _ [7, 8, 9, 10, 11, 12, 13, 14, 15, 16, 17, 18, 19, 20, 21, 22, 23, 123, 124, 125, 126, 127, 128, 129, 130] (by decide +kernel) (by decide +kernel)
set_option maxRecDepth 20000 in
theorem gX9_swaps_X5_note : GoodIn wsX9_swaps (wsV RX9 81 RX5 yX5_note wsX5_note) := goodIn_app (goodIn_of _ (by decide +kernel)) ggX9_swaps_X5_note
set_option maxRecDepth 20000 in
theorem ggX9_swaps_X9_moveTold : GoodIn wsX9_swaps wsX9_moveTold := goodIn_r _ [28, 2, 29, 30, 31, 32, 13, 33, 23, 34, 35, 36, 37, 38, 39, 40, 41, 42, 43, 44, 45, 46, 47, 22, 48, 49, 50, 51, 15, 52, 53, 54, 55, 56, 57, 58, 59, 60, 61, 62, 63, 64, 65, 66, 67, 68, 69, 70, 71, 72, 73, 74, 21, 75, 76, 77, 78, 79, 80, 81, 82, 83, 84, 85, 86, 87, 88, 89, 90, 91, 92, 93, 94, 95, 96, 97, 98, 17, 18, 19, 99, 100, 114, 115, 116, 117, 118, 119, 120, 121, 122, 126, 127, 128, 129, 130, 131, 132, 133, 134, 135, 136, 137, 138] (by decide +kernel) (by decide +kernel)
set_option maxRecDepth 20000 in
theorem gX9_swaps_X9_moveTold : GoodIn wsX9_swaps (wsV RX9 292 RX9 yX9_moveTold wsX9_moveTold) := goodIn_app (goodIn_of _ (by decide +kernel)) ggX9_swaps_X9_moveTold
set_option maxRecDepth 20000 in
theorem ggX9_swaps_X9_heldIfDone : GoodIn wsX9_swaps wsX9_heldIfDone := goodIn_r _ [104, 1, 105, 106, 107, 6, 108, 9, 109, 110, 111, 112, 113, 114, 115, 116, 117, 118, 119, 120, 121, 122, 123, 124, 125] (by decide +kernel) (by decide +kernel)
set_option maxRecDepth 20000 in
theorem gX9_swaps_X9_heldIfDone : GoodIn wsX9_swaps (wsV RX9 129 RX9 yX9_heldIfDone wsX9_heldIfDone) := goodIn_app (goodIn_of _ (by decide +kernel)) ggX9_swaps_X9_heldIfDone
theorem dX9_swaps_0 : decode cX9_swaps 0 = .ok (.aload_n 0, 1) := by decide +kernel
theorem dX9_swaps_1 : decode cX9_swaps 1 = .ok (.getfield 19, 3) := by decide +kernel
theorem dX9_swaps_4 : decode cX9_swaps 4 = .ok (.aload_n 0, 1) := by decide +kernel
theorem dX9_swaps_5 : decode cX9_swaps 5 = .ok (.getfield 12, 3) := by decide +kernel
theorem dX9_swaps_8 : decode cX9_swaps 8 = .ok (.invokevirtual 81, 3) := by decide +kernel
theorem dX9_swaps_11 : decode cX9_swaps 11 = .ok (.aload_n 0, 1) := by decide +kernel
theorem dX9_swaps_12 : decode cX9_swaps 12 = .ok (.aload_n 0, 1) := by decide +kernel
theorem dX9_swaps_13 : decode cX9_swaps 13 = .ok (.iload_n 1, 1) := by decide +kernel
theorem dX9_swaps_14 : decode cX9_swaps 14 = .ok (.iload_n 2, 1) := by decide +kernel
theorem dX9_swaps_15 : decode cX9_swaps 15 = .ok (.iconst 1, 1) := by decide +kernel
theorem dX9_swaps_16 : decode cX9_swaps 16 = .ok (.invokevirtual 292, 3) := by decide +kernel
theorem dX9_swaps_19 : decode cX9_swaps 19 = .ok (.invokevirtual 129, 3) := by decide +kernel
theorem dX9_swaps_22 : decode cX9_swaps 22 = .ok (.ireturn, 1) := by decide +kernel
set_option maxRecDepth 20000 in
theorem ggX9_moveTold_X8_hasRow : GoodIn wsX9_moveTold wsX8_hasRow := goodIn_r _ [7, 8, 91, 92, 93, 94, 95] (by decide +kernel) (by decide +kernel)
set_option maxRecDepth 20000 in
theorem gX9_moveTold_X8_hasRow : GoodIn wsX9_moveTold (wsV RX9 218 RX8 yX8_hasRow wsX8_hasRow) := goodIn_app (goodIn_of _ (by decide +kernel)) ggX9_moveTold_X8_hasRow
set_option maxRecDepth 20000 in
theorem ggX9_moveTold_X4_read : GoodIn wsX9_moveTold wsX4_read := goodIn_r _ [13, 14, 15, 16, 17, 18, 19, 20, 21, 6, 22, 23, 24, 25, 26, 27, 28, 29, 30, 31, 32, 33, 34, 35, 36, 37, 38, 39, 40, 41, 42, 43, 44, 45, 46, 47, 48, 49, 50, 51, 52, 91, 92, 93, 94, 95, 96, 97, 98, 99, 100, 101, 102, 103] (by decide +kernel) (by decide +kernel)
set_option maxRecDepth 20000 in
theorem gX9_moveTold_X4_read : GoodIn wsX9_moveTold (wsV RX9 255 RX4 yX4_read wsX4_read) := goodIn_app (goodIn_of _ (by decide +kernel)) ggX9_moveTold_X4_read
set_option maxRecDepth 20000 in
theorem ggX9_moveTold_X4_runsOfLine : GoodIn wsX9_moveTold wsX4_runsOfLine := goodIn_r _ [56, 15, 16, 57, 58, 59, 12, 60, 18, 17, 96, 97, 98, 99, 100, 101, 102, 103] (by decide +kernel) (by decide +kernel)
set_option maxRecDepth 20000 in
theorem gX9_moveTold_X4_runsOfLine : GoodIn wsX9_moveTold (wsV RX9 258 RX4 yX4_runsOfLine wsX4_runsOfLine) := goodIn_app (goodIn_of _ (by decide +kernel)) ggX9_moveTold_X4_runsOfLine
set_option maxRecDepth 20000 in
theorem ggX9_moveTold_X4_exchange : GoodIn wsX9_moveTold wsX4_exchange := goodIn_r _ [64, 17, 96, 97, 98, 99, 100, 101, 102, 103] (by decide +kernel) (by decide +kernel)
set_option maxRecDepth 20000 in
theorem gX9_moveTold_X4_exchange : GoodIn wsX9_moveTold (wsV RX9 296 RX4 yX4_exchange wsX4_exchange) := goodIn_app (goodIn_of _ (by decide +kernel)) ggX9_moveTold_X4_exchange
set_option maxRecDepth 20000 in
theorem ggX9_moveTold_X4_shift : GoodIn wsX9_moveTold wsX4_shift := goodIn_r _ [68, 17, 96, 97, 98, 99, 100, 101, 102, 103] (by decide +kernel) (by decide +kernel)
set_option maxRecDepth 20000 in
theorem gX9_moveTold_X4_shift : GoodIn wsX9_moveTold (wsV RX9 300 RX4 yX4_shift wsX4_shift) := goodIn_app (goodIn_of _ (by decide +kernel)) ggX9_moveTold_X4_shift
set_option maxRecDepth 20000 in
theorem ggX9_moveTold_X4_carryOut : GoodIn wsX9_moveTold wsX4_carryOut := goodIn_r _ [72, 73, 15, 74, 75, 17, 76, 77, 78, 79, 80, 81, 91, 92, 93, 94, 95, 96, 97, 98, 99, 100, 101, 102, 103] (by decide +kernel) (by decide +kernel)
set_option maxRecDepth 20000 in
theorem gX9_moveTold_X4_carryOut : GoodIn wsX9_moveTold (wsV RX9 265 RX4 yX4_carryOut wsX4_carryOut) := goodIn_app (goodIn_of _ (by decide +kernel)) ggX9_moveTold_X4_carryOut
theorem dX9_moveTold_0 : decode cX9_moveTold 0 = .ok (.aload_n 0, 1) := by decide +kernel
theorem dX9_moveTold_1 : decode cX9_moveTold 1 = .ok (.getfield 12, 3) := by decide +kernel
theorem dX9_moveTold_4 : decode cX9_moveTold 4 = .ok (.iload_n 1, 1) := by decide +kernel
theorem dX9_moveTold_5 : decode cX9_moveTold 5 = .ok (.invokevirtual 218, 3) := by decide +kernel
theorem dX9_moveTold_8 : decode cX9_moveTold 8 = .ok (.ifCond .eq 14, 3) := by decide +kernel
theorem dX9_moveTold_11 : decode cX9_moveTold 11 = .ok (.aload_n 0, 1) := by decide +kernel
theorem dX9_moveTold_12 : decode cX9_moveTold 12 = .ok (.getfield 12, 3) := by decide +kernel
theorem dX9_moveTold_15 : decode cX9_moveTold 15 = .ok (.iload_n 2, 1) := by decide +kernel
theorem dX9_moveTold_16 : decode cX9_moveTold 16 = .ok (.invokevirtual 218, 3) := by decide +kernel
theorem dX9_moveTold_19 : decode cX9_moveTold 19 = .ok (.ifCond .ne 5, 3) := by decide +kernel
theorem dX9_moveTold_22 : decode cX9_moveTold 22 = .ok (.iconst (-1), 1) := by decide +kernel
theorem dX9_moveTold_23 : decode cX9_moveTold 23 = .ok (.ireturn, 1) := by decide +kernel
theorem dX9_moveTold_24 : decode cX9_moveTold 24 = .ok (.iload_n 1, 1) := by decide +kernel
theorem dX9_moveTold_25 : decode cX9_moveTold 25 = .ok (.iload_n 2, 1) := by decide +kernel
theorem dX9_moveTold_26 : decode cX9_moveTold 26 = .ok (.if_icmp .ne 6, 3) := by decide +kernel
theorem dX9_moveTold_29 : decode cX9_moveTold 29 = .ok (.bipush (-2), 2) := by decide +kernel
theorem dX9_moveTold_31 : decode cX9_moveTold 31 = .ok (.ireturn, 1) := by decide +kernel
theorem dX9_moveTold_32 : decode cX9_moveTold 32 = .ok (.aload_n 0, 1) := by decide +kernel
theorem dX9_moveTold_33 : decode cX9_moveTold 33 = .ok (.getfield 62, 3) := by decide +kernel
theorem dX9_moveTold_36 : decode cX9_moveTold 36 = .ok (.aload_n 0, 1) := by decide +kernel
theorem dX9_moveTold_37 : decode cX9_moveTold 37 = .ok (.getfield 12, 3) := by decide +kernel
theorem dX9_moveTold_40 : decode cX9_moveTold 40 = .ok (.invokevirtual 255, 3) := by decide +kernel
theorem dX9_moveTold_43 : decode cX9_moveTold 43 = .ok (.aload_n 0, 1) := by decide +kernel
theorem dX9_moveTold_44 : decode cX9_moveTold 44 = .ok (.getfield 62, 3) := by decide +kernel
theorem dX9_moveTold_47 : decode cX9_moveTold 47 = .ok (.invokevirtual 258, 3) := by decide +kernel
theorem dX9_moveTold_50 : decode cX9_moveTold 50 = .ok (.istore 4, 2) := by decide +kernel
theorem dX9_moveTold_52 : decode cX9_moveTold 52 = .ok (.iload_n 3, 1) := by decide +kernel
theorem dX9_moveTold_53 : decode cX9_moveTold 53 = .ok (.ifCond .eq 15, 3) := by decide +kernel
theorem dX9_moveTold_56 : decode cX9_moveTold 56 = .ok (.aload_n 0, 1) := by decide +kernel
theorem dX9_moveTold_57 : decode cX9_moveTold 57 = .ok (.getfield 62, 3) := by decide +kernel
theorem dX9_moveTold_60 : decode cX9_moveTold 60 = .ok (.iload_n 1, 1) := by decide +kernel
theorem dX9_moveTold_61 : decode cX9_moveTold 61 = .ok (.iload_n 2, 1) := by decide +kernel
theorem dX9_moveTold_62 : decode cX9_moveTold 62 = .ok (.invokevirtual 296, 3) := by decide +kernel
theorem dX9_moveTold_65 : decode cX9_moveTold 65 = .ok (.goto 12, 3) := by decide +kernel
theorem dX9_moveTold_68 : decode cX9_moveTold 68 = .ok (.aload_n 0, 1) := by decide +kernel
theorem dX9_moveTold_69 : decode cX9_moveTold 69 = .ok (.getfield 62, 3) := by decide +kernel
theorem dX9_moveTold_72 : decode cX9_moveTold 72 = .ok (.iload_n 1, 1) := by decide +kernel
theorem dX9_moveTold_73 : decode cX9_moveTold 73 = .ok (.iload_n 2, 1) := by decide +kernel
theorem dX9_moveTold_74 : decode cX9_moveTold 74 = .ok (.invokevirtual 300, 3) := by decide +kernel
theorem dX9_moveTold_77 : decode cX9_moveTold 77 = .ok (.aload_n 0, 1) := by decide +kernel
theorem dX9_moveTold_78 : decode cX9_moveTold 78 = .ok (.getfield 62, 3) := by decide +kernel
theorem dX9_moveTold_81 : decode cX9_moveTold 81 = .ok (.aload_n 0, 1) := by decide +kernel
theorem dX9_moveTold_82 : decode cX9_moveTold 82 = .ok (.getfield 12, 3) := by decide +kernel
theorem dX9_moveTold_85 : decode cX9_moveTold 85 = .ok (.invokevirtual 265, 3) := by decide +kernel
theorem dX9_moveTold_88 : decode cX9_moveTold 88 = .ok (.pop, 1) := by decide +kernel
theorem dX9_moveTold_89 : decode cX9_moveTold 89 = .ok (.sipush 1000, 3) := by decide +kernel
theorem dX9_moveTold_92 : decode cX9_moveTold 92 = .ok (.iload 4, 2) := by decide +kernel
theorem dX9_moveTold_94 : decode cX9_moveTold 94 = .ok (.iadd, 1) := by decide +kernel
theorem dX9_moveTold_95 : decode cX9_moveTold 95 = .ok (.aload_n 0, 1) := by decide +kernel
theorem dX9_moveTold_96 : decode cX9_moveTold 96 = .ok (.getfield 62, 3) := by decide +kernel
theorem dX9_moveTold_99 : decode cX9_moveTold 99 = .ok (.invokevirtual 258, 3) := by decide +kernel
theorem dX9_moveTold_102 : decode cX9_moveTold 102 = .ok (.isub, 1) := by decide +kernel
theorem dX9_moveTold_103 : decode cX9_moveTold 103 = .ok (.ireturn, 1) := by decide +kernel
set_option maxRecDepth 20000 in
theorem ggX9_moves_X5_note : GoodIn wsX9_moves wsX5_note := goodIn_r _ [7, 8, 9, 10, 11, 12, 13, 14, 15, 16, 17, 18, 19, 20, 21, 22, 23, 123, 124, 125, 126, 127, 128, 129, 130] (by decide +kernel) (by decide +kernel)
set_option maxRecDepth 20000 in
theorem gX9_moves_X5_note : GoodIn wsX9_moves (wsV RX9 81 RX5 yX5_note wsX5_note) := goodIn_app (goodIn_of _ (by decide +kernel)) ggX9_moves_X5_note
set_option maxRecDepth 20000 in
theorem ggX9_moves_X9_moveTold : GoodIn wsX9_moves wsX9_moveTold := goodIn_r _ [28, 2, 29, 30, 31, 32, 13, 33, 23, 34, 35, 36, 37, 38, 39, 40, 41, 42, 43, 44, 45, 46, 47, 22, 48, 49, 50, 51, 15, 52, 53, 54, 55, 56, 57, 58, 59, 60, 61, 62, 63, 64, 65, 66, 67, 68, 69, 70, 71, 72, 73, 74, 21, 75, 76, 77, 78, 79, 80, 81, 82, 83, 84, 85, 86, 87, 88, 89, 90, 91, 92, 93, 94, 95, 96, 97, 98, 17, 18, 19, 99, 100, 114, 115, 116, 117, 118, 119, 120, 121, 122, 126, 127, 128, 129, 130, 131, 132, 133, 134, 135, 136, 137, 138] (by decide +kernel) (by decide +kernel)
set_option maxRecDepth 20000 in
theorem gX9_moves_X9_moveTold : GoodIn wsX9_moves (wsV RX9 292 RX9 yX9_moveTold wsX9_moveTold) := goodIn_app (goodIn_of _ (by decide +kernel)) ggX9_moves_X9_moveTold
set_option maxRecDepth 20000 in
theorem ggX9_moves_X9_heldIfDone : GoodIn wsX9_moves wsX9_heldIfDone := goodIn_r _ [104, 1, 105, 106, 107, 6, 108, 9, 109, 110, 111, 112, 113, 114, 115, 116, 117, 118, 119, 120, 121, 122, 123, 124, 125] (by decide +kernel) (by decide +kernel)
set_option maxRecDepth 20000 in
theorem gX9_moves_X9_heldIfDone : GoodIn wsX9_moves (wsV RX9 129 RX9 yX9_heldIfDone wsX9_heldIfDone) := goodIn_app (goodIn_of _ (by decide +kernel)) ggX9_moves_X9_heldIfDone
theorem dX9_moves_0 : decode cX9_moves 0 = .ok (.aload_n 0, 1) := by decide +kernel
theorem dX9_moves_1 : decode cX9_moves 1 = .ok (.getfield 19, 3) := by decide +kernel
theorem dX9_moves_4 : decode cX9_moves 4 = .ok (.aload_n 0, 1) := by decide +kernel
theorem dX9_moves_5 : decode cX9_moves 5 = .ok (.getfield 12, 3) := by decide +kernel
theorem dX9_moves_8 : decode cX9_moves 8 = .ok (.invokevirtual 81, 3) := by decide +kernel
theorem dX9_moves_11 : decode cX9_moves 11 = .ok (.aload_n 0, 1) := by decide +kernel
theorem dX9_moves_12 : decode cX9_moves 12 = .ok (.aload_n 0, 1) := by decide +kernel
theorem dX9_moves_13 : decode cX9_moves 13 = .ok (.iload_n 1, 1) := by decide +kernel
theorem dX9_moves_14 : decode cX9_moves 14 = .ok (.iload_n 2, 1) := by decide +kernel
theorem dX9_moves_15 : decode cX9_moves 15 = .ok (.iconst 0, 1) := by decide +kernel
theorem dX9_moves_16 : decode cX9_moves 16 = .ok (.invokevirtual 292, 3) := by decide +kernel
theorem dX9_moves_19 : decode cX9_moves 19 = .ok (.invokevirtual 129, 3) := by decide +kernel
theorem dX9_moves_22 : decode cX9_moves 22 = .ok (.ireturn, 1) := by decide +kernel
set_option maxRecDepth 20000 in
theorem ggX9_bestSwap_X4_read : GoodIn wsX9_bestSwap wsX4_read := goodIn_r _ [9, 10, 11, 12, 13, 14, 15, 16, 17, 18, 19, 20, 21, 22, 23, 24, 25, 26, 27, 28, 29, 30, 31, 32, 33, 34, 35, 36, 37, 38, 39, 40, 41, 42, 43, 44, 45, 46, 47, 48, 49, 90, 91, 92, 93, 94, 95, 96, 97, 98, 99, 100, 101, 102] (by decide +kernel) (by decide +kernel)
set_option maxRecDepth 20000 in
theorem gX9_bestSwap_X4_read : GoodIn wsX9_bestSwap (wsV RX9 255 RX4 yX4_read wsX4_read) := goodIn_app (goodIn_of _ (by decide +kernel)) ggX9_bestSwap_X4_read
set_option maxRecDepth 20000 in
theorem ggX9_bestSwap_X4_runsOfLine : GoodIn wsX9_bestSwap wsX4_runsOfLine := goodIn_r _ [53, 11, 12, 54, 55, 56, 8, 57, 14, 13, 95, 96, 97, 98, 99, 100, 101, 102] (by decide +kernel) (by decide +kernel)
set_option maxRecDepth 20000 in
theorem gX9_bestSwap_X4_runsOfLine : GoodIn wsX9_bestSwap (wsV RX9 258 RX4 yX4_runsOfLine wsX4_runsOfLine) := goodIn_app (goodIn_of _ (by decide +kernel)) ggX9_bestSwap_X4_runsOfLine
set_option maxRecDepth 20000 in
theorem ggX9_bestSwap_X4_exchange : GoodIn wsX9_bestSwap wsX4_exchange := goodIn_r _ [61, 13, 95, 96, 97, 98, 99, 100, 101, 102] (by decide +kernel) (by decide +kernel)
set_option maxRecDepth 20000 in
theorem gX9_bestSwap_X4_exchange : GoodIn wsX9_bestSwap (wsV RX9 296 RX4 yX4_exchange wsX4_exchange) := goodIn_app (goodIn_of _ (by decide +kernel)) ggX9_bestSwap_X4_exchange
set_option maxRecDepth 20000 in
theorem ggX9_bestSwap_X0_tell_ : GoodIn wsX9_bestSwap wsX0_tell_ := goodIn_r _ [66, 67, 68, 69, 65, 70, 71, 72, 73, 74, 75, 76, 77, 78, 79, 80, 103, 104] (by decide +kernel) (by decide +kernel)
set_option maxRecDepth 20000 in
theorem gX9_bestSwap_X0_tell_ : GoodIn wsX9_bestSwap (wsV RX9 212 RX0 yX0_tell_ wsX0_tell_) := goodIn_app (goodIn_of _ (by decide +kernel)) ggX9_bestSwap_X0_tell_
theorem dX9_bestSwap_0 : decode cX9_bestSwap 0 = .ok (.aload_n 0, 1) := by decide +kernel
theorem dX9_bestSwap_1 : decode cX9_bestSwap 1 = .ok (.getfield 62, 3) := by decide +kernel
theorem dX9_bestSwap_4 : decode cX9_bestSwap 4 = .ok (.aload_n 0, 1) := by decide +kernel
theorem dX9_bestSwap_5 : decode cX9_bestSwap 5 = .ok (.getfield 12, 3) := by decide +kernel
theorem dX9_bestSwap_8 : decode cX9_bestSwap 8 = .ok (.invokevirtual 255, 3) := by decide +kernel
theorem dX9_bestSwap_11 : decode cX9_bestSwap 11 = .ok (.aload_n 0, 1) := by decide +kernel
theorem dX9_bestSwap_12 : decode cX9_bestSwap 12 = .ok (.getfield 62, 3) := by decide +kernel
theorem dX9_bestSwap_15 : decode cX9_bestSwap 15 = .ok (.invokevirtual 258, 3) := by decide +kernel
theorem dX9_bestSwap_18 : decode cX9_bestSwap 18 = .ok (.istore_n 1, 1) := by decide +kernel
theorem dX9_bestSwap_19 : decode cX9_bestSwap 19 = .ok (.iconst 0, 1) := by decide +kernel
theorem dX9_bestSwap_20 : decode cX9_bestSwap 20 = .ok (.istore_n 2, 1) := by decide +kernel
theorem dX9_bestSwap_21 : decode cX9_bestSwap 21 = .ok (.iconst 0, 1) := by decide +kernel
theorem dX9_bestSwap_22 : decode cX9_bestSwap 22 = .ok (.istore_n 3, 1) := by decide +kernel
theorem dX9_bestSwap_23 : decode cX9_bestSwap 23 = .ok (.iload_n 3, 1) := by decide +kernel
theorem dX9_bestSwap_24 : decode cX9_bestSwap 24 = .ok (.aload_n 0, 1) := by decide +kernel
theorem dX9_bestSwap_25 : decode cX9_bestSwap 25 = .ok (.getfield 12, 3) := by decide +kernel
theorem dX9_bestSwap_28 : decode cX9_bestSwap 28 = .ok (.getfield 164, 3) := by decide +kernel
theorem dX9_bestSwap_31 : decode cX9_bestSwap 31 = .ok (.if_icmp .ge 84, 3) := by decide +kernel
theorem dX9_bestSwap_34 : decode cX9_bestSwap 34 = .ok (.iload_n 3, 1) := by decide +kernel
theorem dX9_bestSwap_35 : decode cX9_bestSwap 35 = .ok (.iconst 1, 1) := by decide +kernel
theorem dX9_bestSwap_36 : decode cX9_bestSwap 36 = .ok (.iadd, 1) := by decide +kernel
theorem dX9_bestSwap_37 : decode cX9_bestSwap 37 = .ok (.istore 4, 2) := by decide +kernel
theorem dX9_bestSwap_39 : decode cX9_bestSwap 39 = .ok (.iload 4, 2) := by decide +kernel
theorem dX9_bestSwap_41 : decode cX9_bestSwap 41 = .ok (.aload_n 0, 1) := by decide +kernel
theorem dX9_bestSwap_42 : decode cX9_bestSwap 42 = .ok (.getfield 12, 3) := by decide +kernel
theorem dX9_bestSwap_45 : decode cX9_bestSwap 45 = .ok (.getfield 164, 3) := by decide +kernel
theorem dX9_bestSwap_48 : decode cX9_bestSwap 48 = .ok (.if_icmp .ge 61, 3) := by decide +kernel
theorem dX9_bestSwap_51 : decode cX9_bestSwap 51 = .ok (.aload_n 0, 1) := by decide +kernel
theorem dX9_bestSwap_52 : decode cX9_bestSwap 52 = .ok (.getfield 62, 3) := by decide +kernel
theorem dX9_bestSwap_55 : decode cX9_bestSwap 55 = .ok (.iload_n 3, 1) := by decide +kernel
theorem dX9_bestSwap_56 : decode cX9_bestSwap 56 = .ok (.iload 4, 2) := by decide +kernel
theorem dX9_bestSwap_58 : decode cX9_bestSwap 58 = .ok (.invokevirtual 296, 3) := by decide +kernel
theorem dX9_bestSwap_61 : decode cX9_bestSwap 61 = .ok (.iload_n 1, 1) := by decide +kernel
theorem dX9_bestSwap_62 : decode cX9_bestSwap 62 = .ok (.aload_n 0, 1) := by decide +kernel
theorem dX9_bestSwap_63 : decode cX9_bestSwap 63 = .ok (.getfield 62, 3) := by decide +kernel
theorem dX9_bestSwap_66 : decode cX9_bestSwap 66 = .ok (.invokevirtual 258, 3) := by decide +kernel
theorem dX9_bestSwap_69 : decode cX9_bestSwap 69 = .ok (.isub, 1) := by decide +kernel
theorem dX9_bestSwap_70 : decode cX9_bestSwap 70 = .ok (.istore 5, 2) := by decide +kernel
theorem dX9_bestSwap_72 : decode cX9_bestSwap 72 = .ok (.aload_n 0, 1) := by decide +kernel
theorem dX9_bestSwap_73 : decode cX9_bestSwap 73 = .ok (.getfield 62, 3) := by decide +kernel
theorem dX9_bestSwap_76 : decode cX9_bestSwap 76 = .ok (.iload_n 3, 1) := by decide +kernel
theorem dX9_bestSwap_77 : decode cX9_bestSwap 77 = .ok (.iload 4, 2) := by decide +kernel
theorem dX9_bestSwap_79 : decode cX9_bestSwap 79 = .ok (.invokevirtual 296, 3) := by decide +kernel
theorem dX9_bestSwap_82 : decode cX9_bestSwap 82 = .ok (.iload 5, 2) := by decide +kernel
theorem dX9_bestSwap_84 : decode cX9_bestSwap 84 = .ok (.iload_n 2, 1) := by decide +kernel
theorem dX9_bestSwap_85 : decode cX9_bestSwap 85 = .ok (.if_icmp .le 18, 3) := by decide +kernel
theorem dX9_bestSwap_88 : decode cX9_bestSwap 88 = .ok (.iload 5, 2) := by decide +kernel
theorem dX9_bestSwap_90 : decode cX9_bestSwap 90 = .ok (.istore_n 2, 1) := by decide +kernel
theorem dX9_bestSwap_91 : decode cX9_bestSwap 91 = .ok (.aload_n 0, 1) := by decide +kernel
theorem dX9_bestSwap_92 : decode cX9_bestSwap 92 = .ok (.getfield 41, 3) := by decide +kernel
theorem dX9_bestSwap_95 : decode cX9_bestSwap 95 = .ok (.iload_n 3, 1) := by decide +kernel
theorem dX9_bestSwap_96 : decode cX9_bestSwap 96 = .ok (.i2l, 1) := by decide +kernel
theorem dX9_bestSwap_97 : decode cX9_bestSwap 97 = .ok (.iload 4, 2) := by decide +kernel
theorem dX9_bestSwap_99 : decode cX9_bestSwap 99 = .ok (.i2l, 1) := by decide +kernel
theorem dX9_bestSwap_100 : decode cX9_bestSwap 100 = .ok (.invokevirtual 212, 3) := by decide +kernel
theorem dX9_bestSwap_103 : decode cX9_bestSwap 103 = .ok (.iinc 4 1, 3) := by decide +kernel
theorem dX9_bestSwap_106 : decode cX9_bestSwap 106 = .ok (.goto (-67), 3) := by decide +kernel
theorem dX9_bestSwap_109 : decode cX9_bestSwap 109 = .ok (.iinc 3 1, 3) := by decide +kernel
theorem dX9_bestSwap_112 : decode cX9_bestSwap 112 = .ok (.goto (-89), 3) := by decide +kernel
theorem dX9_bestSwap_115 : decode cX9_bestSwap 115 = .ok (.iload_n 2, 1) := by decide +kernel
theorem dX9_bestSwap_116 : decode cX9_bestSwap 116 = .ok (.ifCond .le 7, 3) := by decide +kernel
theorem dX9_bestSwap_119 : decode cX9_bestSwap 119 = .ok (.iload_n 2, 1) := by decide +kernel
theorem dX9_bestSwap_120 : decode cX9_bestSwap 120 = .ok (.goto 5, 3) := by decide +kernel
theorem dX9_bestSwap_123 : decode cX9_bestSwap 123 = .ok (.bipush (-2), 2) := by decide +kernel
theorem dX9_bestSwap_125 : decode cX9_bestSwap 125 = .ok (.ireturn, 1) := by decide +kernel
set_option maxRecDepth 20000 in
theorem ggX9_place_X8_hasRow : GoodIn wsX9_place wsX8_hasRow := goodIn_r _ [9, 10, 91, 92, 93, 94, 95] (by decide +kernel) (by decide +kernel)
set_option maxRecDepth 20000 in
theorem gX9_place_X8_hasRow : GoodIn wsX9_place (wsV RX9 218 RX8 yX8_hasRow wsX8_hasRow) := goodIn_app (goodIn_of _ (by decide +kernel)) ggX9_place_X8_hasRow
set_option maxRecDepth 20000 in
theorem ggX9_place_X4_read : GoodIn wsX9_place wsX4_read := goodIn_r _ [15, 16, 17, 18, 19, 20, 21, 22, 23, 8, 24, 25, 26, 27, 28, 29, 30, 31, 32, 33, 34, 35, 36, 37, 38, 39, 40, 41, 42, 43, 44, 45, 46, 47, 48, 49, 50, 51, 52, 53, 54, 91, 92, 93, 94, 95, 96, 97, 98, 99, 100, 101, 102, 103] (by decide +kernel) (by decide +kernel)
set_option maxRecDepth 20000 in
theorem gX9_place_X4_read : GoodIn wsX9_place (wsV RX9 255 RX4 yX4_read wsX4_read) := goodIn_app (goodIn_of _ (by decide +kernel)) ggX9_place_X4_read
set_option maxRecDepth 20000 in
theorem ggX9_place_X4_shift : GoodIn wsX9_place wsX4_shift := goodIn_r _ [58, 19, 96, 97, 98, 99, 100, 101, 102, 103] (by decide +kernel) (by decide +kernel)
set_option maxRecDepth 20000 in
theorem gX9_place_X4_shift : GoodIn wsX9_place (wsV RX9 300 RX4 yX4_shift wsX4_shift) := goodIn_app (goodIn_of _ (by decide +kernel)) ggX9_place_X4_shift
set_option maxRecDepth 20000 in
theorem ggX9_place_X4_runsOfLine : GoodIn wsX9_place wsX4_runsOfLine := goodIn_r _ [62, 17, 18, 63, 64, 65, 14, 66, 20, 19, 96, 97, 98, 99, 100, 101, 102, 103] (by decide +kernel) (by decide +kernel)
set_option maxRecDepth 20000 in
theorem gX9_place_X4_runsOfLine : GoodIn wsX9_place (wsV RX9 258 RX4 yX4_runsOfLine wsX4_runsOfLine) := goodIn_app (goodIn_of _ (by decide +kernel)) ggX9_place_X4_runsOfLine
set_option maxRecDepth 20000 in
theorem ggX9_place_X0_tell : GoodIn wsX9_place wsX0_tell := goodIn_r _ [71, 72, 73, 74, 70, 75, 76, 77, 78, 79, 80, 81, 104, 105] (by decide +kernel) (by decide +kernel)
set_option maxRecDepth 20000 in
theorem gX9_place_X0_tell : GoodIn wsX9_place (wsV RX9 157 RX0 yX0_tell wsX0_tell) := goodIn_app (goodIn_of _ (by decide +kernel)) ggX9_place_X0_tell
theorem dX9_place_0 : decode cX9_place 0 = .ok (.aload_n 0, 1) := by decide +kernel
theorem dX9_place_1 : decode cX9_place 1 = .ok (.getfield 12, 3) := by decide +kernel
theorem dX9_place_4 : decode cX9_place 4 = .ok (.iload_n 1, 1) := by decide +kernel
theorem dX9_place_5 : decode cX9_place 5 = .ok (.invokevirtual 218, 3) := by decide +kernel
theorem dX9_place_8 : decode cX9_place 8 = .ok (.ifCond .ne 5, 3) := by decide +kernel
theorem dX9_place_11 : decode cX9_place 11 = .ok (.iconst (-1), 1) := by decide +kernel
theorem dX9_place_12 : decode cX9_place 12 = .ok (.ireturn, 1) := by decide +kernel
theorem dX9_place_13 : decode cX9_place 13 = .ok (.aload_n 0, 1) := by decide +kernel
theorem dX9_place_14 : decode cX9_place 14 = .ok (.getfield 62, 3) := by decide +kernel
theorem dX9_place_17 : decode cX9_place 17 = .ok (.aload_n 0, 1) := by decide +kernel
theorem dX9_place_18 : decode cX9_place 18 = .ok (.getfield 12, 3) := by decide +kernel
theorem dX9_place_21 : decode cX9_place 21 = .ok (.invokevirtual 255, 3) := by decide +kernel
theorem dX9_place_24 : decode cX9_place 24 = .ok (.bipush 97, 2) := by decide +kernel
theorem dX9_place_26 : decode cX9_place 26 = .ok (.istore_n 2, 1) := by decide +kernel
theorem dX9_place_27 : decode cX9_place 27 = .ok (.iload_n 1, 1) := by decide +kernel
theorem dX9_place_28 : decode cX9_place 28 = .ok (.istore_n 3, 1) := by decide +kernel
theorem dX9_place_29 : decode cX9_place 29 = .ok (.iconst 0, 1) := by decide +kernel
theorem dX9_place_30 : decode cX9_place 30 = .ok (.istore 4, 2) := by decide +kernel
theorem dX9_place_32 : decode cX9_place 32 = .ok (.iload 4, 2) := by decide +kernel
theorem dX9_place_34 : decode cX9_place 34 = .ok (.aload_n 0, 1) := by decide +kernel
theorem dX9_place_35 : decode cX9_place 35 = .ok (.getfield 12, 3) := by decide +kernel
theorem dX9_place_38 : decode cX9_place 38 = .ok (.getfield 164, 3) := by decide +kernel
theorem dX9_place_41 : decode cX9_place 41 = .ok (.if_icmp .ge 50, 3) := by decide +kernel
theorem dX9_place_44 : decode cX9_place 44 = .ok (.aload_n 0, 1) := by decide +kernel
theorem dX9_place_45 : decode cX9_place 45 = .ok (.getfield 62, 3) := by decide +kernel
theorem dX9_place_48 : decode cX9_place 48 = .ok (.iload_n 1, 1) := by decide +kernel
theorem dX9_place_49 : decode cX9_place 49 = .ok (.iload 4, 2) := by decide +kernel
theorem dX9_place_51 : decode cX9_place 51 = .ok (.invokevirtual 300, 3) := by decide +kernel
theorem dX9_place_54 : decode cX9_place 54 = .ok (.aload_n 0, 1) := by decide +kernel
theorem dX9_place_55 : decode cX9_place 55 = .ok (.getfield 62, 3) := by decide +kernel
theorem dX9_place_58 : decode cX9_place 58 = .ok (.invokevirtual 258, 3) := by decide +kernel
theorem dX9_place_61 : decode cX9_place 61 = .ok (.istore 5, 2) := by decide +kernel
theorem dX9_place_63 : decode cX9_place 63 = .ok (.aload_n 0, 1) := by decide +kernel
theorem dX9_place_64 : decode cX9_place 64 = .ok (.getfield 62, 3) := by decide +kernel
theorem dX9_place_67 : decode cX9_place 67 = .ok (.iload 4, 2) := by decide +kernel
theorem dX9_place_69 : decode cX9_place 69 = .ok (.iload_n 1, 1) := by decide +kernel
theorem dX9_place_70 : decode cX9_place 70 = .ok (.invokevirtual 300, 3) := by decide +kernel
theorem dX9_place_73 : decode cX9_place 73 = .ok (.iload 5, 2) := by decide +kernel
theorem dX9_place_75 : decode cX9_place 75 = .ok (.iload_n 2, 1) := by decide +kernel
theorem dX9_place_76 : decode cX9_place 76 = .ok (.if_icmp .ge 9, 3) := by decide +kernel
theorem dX9_place_79 : decode cX9_place 79 = .ok (.iload 5, 2) := by decide +kernel
theorem dX9_place_81 : decode cX9_place 81 = .ok (.istore_n 2, 1) := by decide +kernel
theorem dX9_place_82 : decode cX9_place 82 = .ok (.iload 4, 2) := by decide +kernel
theorem dX9_place_84 : decode cX9_place 84 = .ok (.istore_n 3, 1) := by decide +kernel
theorem dX9_place_85 : decode cX9_place 85 = .ok (.iinc 4 1, 3) := by decide +kernel
theorem dX9_place_88 : decode cX9_place 88 = .ok (.goto (-56), 3) := by decide +kernel
theorem dX9_place_91 : decode cX9_place 91 = .ok (.aload_n 0, 1) := by decide +kernel
theorem dX9_place_92 : decode cX9_place 92 = .ok (.getfield 41, 3) := by decide +kernel
theorem dX9_place_95 : decode cX9_place 95 = .ok (.iload_n 2, 1) := by decide +kernel
theorem dX9_place_96 : decode cX9_place 96 = .ok (.i2l, 1) := by decide +kernel
theorem dX9_place_97 : decode cX9_place 97 = .ok (.invokevirtual 157, 3) := by decide +kernel
theorem dX9_place_100 : decode cX9_place 100 = .ok (.iload_n 3, 1) := by decide +kernel
theorem dX9_place_101 : decode cX9_place 101 = .ok (.ireturn, 1) := by decide +kernel
set_option maxRecDepth 20000 in
theorem ggX9_restores_X5_note : GoodIn wsX9_restores wsX5_note := goodIn_r _ [7, 8, 9, 10, 11, 12, 13, 14, 15, 16, 17, 18, 19, 20, 21, 22, 23, 107, 108, 109, 110, 111, 112, 113, 114] (by decide +kernel) (by decide +kernel)
set_option maxRecDepth 20000 in
theorem gX9_restores_X5_note : GoodIn wsX9_restores (wsV RX9 81 RX5 yX5_note wsX5_note) := goodIn_app (goodIn_of _ (by decide +kernel)) ggX9_restores_X5_note
set_option maxRecDepth 20000 in
theorem ggX9_restores_X9_restoreTold : GoodIn wsX9_restores wsX9_restoreTold := goodIn_r _ [28, 29, 2, 30, 31, 32, 33, 34, 35, 36, 37, 38, 39, 40, 41, 42, 13, 43, 22, 44, 45, 46, 47, 15, 48, 49, 50, 51, 52, 53, 54, 55, 56, 57, 58, 59, 60, 61, 62, 63, 64, 65, 66, 67, 68, 69, 70, 21, 71, 72, 73, 74, 75, 76, 77, 78, 79, 80, 81, 82, 83, 17, 18, 19, 84, 98, 99, 100, 101, 102, 103, 104, 105, 106, 110, 111, 112, 113, 114, 115, 116, 117, 118, 119, 120, 121, 122] (by decide +kernel) (by decide +kernel)
set_option maxRecDepth 20000 in
theorem gX9_restores_X9_restoreTold : GoodIn wsX9_restores (wsV RX9 303 RX9 yX9_restoreTold wsX9_restoreTold) := goodIn_app (goodIn_of _ (by decide +kernel)) ggX9_restores_X9_restoreTold
set_option maxRecDepth 20000 in
theorem ggX9_restores_X9_heldIfDone : GoodIn wsX9_restores wsX9_heldIfDone := goodIn_r _ [88, 1, 89, 90, 91, 6, 92, 9, 93, 94, 95, 96, 97, 98, 99, 100, 101, 102, 103, 104, 105, 106, 107, 108, 109] (by decide +kernel) (by decide +kernel)
set_option maxRecDepth 20000 in
theorem gX9_restores_X9_heldIfDone : GoodIn wsX9_restores (wsV RX9 129 RX9 yX9_heldIfDone wsX9_heldIfDone) := goodIn_app (goodIn_of _ (by decide +kernel)) ggX9_restores_X9_heldIfDone
theorem dX9_restores_0 : decode cX9_restores 0 = .ok (.aload_n 0, 1) := by decide +kernel
theorem dX9_restores_1 : decode cX9_restores 1 = .ok (.getfield 19, 3) := by decide +kernel
theorem dX9_restores_4 : decode cX9_restores 4 = .ok (.aload_n 0, 1) := by decide +kernel
theorem dX9_restores_5 : decode cX9_restores 5 = .ok (.getfield 12, 3) := by decide +kernel
theorem dX9_restores_8 : decode cX9_restores 8 = .ok (.invokevirtual 81, 3) := by decide +kernel
theorem dX9_restores_11 : decode cX9_restores 11 = .ok (.aload_n 0, 1) := by decide +kernel
theorem dX9_restores_12 : decode cX9_restores 12 = .ok (.aload_n 0, 1) := by decide +kernel
theorem dX9_restores_13 : decode cX9_restores 13 = .ok (.invokevirtual 303, 3) := by decide +kernel
theorem dX9_restores_16 : decode cX9_restores 16 = .ok (.invokevirtual 129, 3) := by decide +kernel
theorem dX9_restores_19 : decode cX9_restores 19 = .ok (.ireturn, 1) := by decide +kernel
set_option maxRecDepth 20000 in
theorem ggX9_restoreTold_X4_read : GoodIn wsX9_restoreTold wsX4_read := goodIn_r _ [7, 8, 9, 10, 11, 12, 13, 14, 15, 16, 17, 18, 19, 20, 21, 22, 23, 24, 25, 26, 27, 28, 29, 30, 31, 32, 33, 34, 35, 36, 37, 38, 39, 40, 41, 42, 43, 44, 45, 46, 47, 74, 75, 76, 77, 78, 79, 80, 81, 82, 83, 84, 85, 86] (by decide +kernel) (by decide +kernel)
set_option maxRecDepth 20000 in
theorem gX9_restoreTold_X4_read : GoodIn wsX9_restoreTold (wsV RX9 255 RX4 yX4_read wsX4_read) := goodIn_app (goodIn_of _ (by decide +kernel)) ggX9_restoreTold_X4_read
set_option maxRecDepth 20000 in
theorem ggX9_restoreTold_X4_followTags : GoodIn wsX9_restoreTold wsX4_followTags := goodIn_r _ [51, 9, 52, 11, 79, 80, 81, 82, 83, 84, 85, 86, 74, 75, 76, 77, 78] (by decide +kernel) (by decide +kernel)
set_option maxRecDepth 20000 in
theorem gX9_restoreTold_X4_followTags : GoodIn wsX9_restoreTold (wsV RX9 306 RX4 yX4_followTags wsX4_followTags) := goodIn_app (goodIn_of _ (by decide +kernel)) ggX9_restoreTold_X4_followTags
set_option maxRecDepth 20000 in
theorem ggX9_restoreTold_X4_carryOut : GoodIn wsX9_restoreTold wsX4_carryOut := goodIn_r _ [56, 57, 9, 58, 59, 11, 60, 61, 62, 63, 64, 52, 74, 75, 76, 77, 78, 79, 80, 81, 82, 83, 84, 85, 86] (by decide +kernel) (by decide +kernel)
set_option maxRecDepth 20000 in
theorem gX9_restoreTold_X4_carryOut : GoodIn wsX9_restoreTold (wsV RX9 265 RX4 yX4_carryOut wsX4_carryOut) := goodIn_app (goodIn_of _ (by decide +kernel)) ggX9_restoreTold_X4_carryOut
theorem dX9_restoreTold_0 : decode cX9_restoreTold 0 = .ok (.aload_n 0, 1) := by decide +kernel
theorem dX9_restoreTold_1 : decode cX9_restoreTold 1 = .ok (.getfield 62, 3) := by decide +kernel
theorem dX9_restoreTold_4 : decode cX9_restoreTold 4 = .ok (.aload_n 0, 1) := by decide +kernel
theorem dX9_restoreTold_5 : decode cX9_restoreTold 5 = .ok (.getfield 12, 3) := by decide +kernel
theorem dX9_restoreTold_8 : decode cX9_restoreTold 8 = .ok (.invokevirtual 255, 3) := by decide +kernel
theorem dX9_restoreTold_11 : decode cX9_restoreTold 11 = .ok (.aload_n 0, 1) := by decide +kernel
theorem dX9_restoreTold_12 : decode cX9_restoreTold 12 = .ok (.getfield 62, 3) := by decide +kernel
theorem dX9_restoreTold_15 : decode cX9_restoreTold 15 = .ok (.aload_n 0, 1) := by decide +kernel
theorem dX9_restoreTold_16 : decode cX9_restoreTold 16 = .ok (.getfield 12, 3) := by decide +kernel
theorem dX9_restoreTold_19 : decode cX9_restoreTold 19 = .ok (.invokevirtual 306, 3) := by decide +kernel
theorem dX9_restoreTold_22 : decode cX9_restoreTold 22 = .ok (.aload_n 0, 1) := by decide +kernel
theorem dX9_restoreTold_23 : decode cX9_restoreTold 23 = .ok (.getfield 62, 3) := by decide +kernel
theorem dX9_restoreTold_26 : decode cX9_restoreTold 26 = .ok (.aload_n 0, 1) := by decide +kernel
theorem dX9_restoreTold_27 : decode cX9_restoreTold 27 = .ok (.getfield 12, 3) := by decide +kernel
theorem dX9_restoreTold_30 : decode cX9_restoreTold 30 = .ok (.invokevirtual 265, 3) := by decide +kernel
theorem dX9_restoreTold_33 : decode cX9_restoreTold 33 = .ok (.ireturn, 1) := by decide +kernel
theorem dX9_tagged_0 : decode cX9_tagged 0 = .ok (.iconst 0, 1) := by decide +kernel
theorem dX9_tagged_1 : decode cX9_tagged 1 = .ok (.istore_n 2, 1) := by decide +kernel
theorem dX9_tagged_2 : decode cX9_tagged 2 = .ok (.iload_n 2, 1) := by decide +kernel
theorem dX9_tagged_3 : decode cX9_tagged 3 = .ok (.aload_n 0, 1) := by decide +kernel
theorem dX9_tagged_4 : decode cX9_tagged 4 = .ok (.getfield 12, 3) := by decide +kernel
theorem dX9_tagged_7 : decode cX9_tagged 7 = .ok (.getfield 164, 3) := by decide +kernel
theorem dX9_tagged_10 : decode cX9_tagged 10 = .ok (.if_icmp .ge 24, 3) := by decide +kernel
theorem dX9_tagged_13 : decode cX9_tagged 13 = .ok (.aload_n 0, 1) := by decide +kernel
theorem dX9_tagged_14 : decode cX9_tagged 14 = .ok (.getfield 12, 3) := by decide +kernel
theorem dX9_tagged_17 : decode cX9_tagged 17 = .ok (.getfield 309, 3) := by decide +kernel
theorem dX9_tagged_20 : decode cX9_tagged 20 = .ok (.iload_n 2, 1) := by decide +kernel
theorem dX9_tagged_21 : decode cX9_tagged 21 = .ok (.iaload, 1) := by decide +kernel
theorem dX9_tagged_22 : decode cX9_tagged 22 = .ok (.iload_n 1, 1) := by decide +kernel
theorem dX9_tagged_23 : decode cX9_tagged 23 = .ok (.if_icmp .ne 5, 3) := by decide +kernel
theorem dX9_tagged_26 : decode cX9_tagged 26 = .ok (.iload_n 2, 1) := by decide +kernel
theorem dX9_tagged_27 : decode cX9_tagged 27 = .ok (.ireturn, 1) := by decide +kernel
theorem dX9_tagged_28 : decode cX9_tagged 28 = .ok (.iinc 2 1, 3) := by decide +kernel
theorem dX9_tagged_31 : decode cX9_tagged 31 = .ok (.goto (-29), 3) := by decide +kernel
theorem dX9_tagged_34 : decode cX9_tagged 34 = .ok (.iconst (-1), 1) := by decide +kernel
theorem dX9_tagged_35 : decode cX9_tagged 35 = .ok (.ireturn, 1) := by decide +kernel
set_option maxRecDepth 20000 in
theorem ggX9_day_X9_wrongInDay : GoodIn wsX9_day wsX9_wrongInDay := goodIn_r _ [14, 1, 4, 5, 6, 7, 8, 15, 16, 17, 13, 18, 19, 20, 21, 22, 23, 24, 25, 26, 27, 28, 29, 30, 31, 32, 33, 34, 35, 36, 37, 38, 39, 40, 41, 42, 305, 306, 307, 308, 309, 310, 311, 312, 313, 314, 315] (by decide +kernel) (by decide +kernel)
set_option maxRecDepth 20000 in
theorem gX9_day_X9_wrongInDay : GoodIn wsX9_day (wsV RX9 312 RX9 yX9_wrongInDay wsX9_wrongInDay) := goodIn_app (goodIn_of _ (by decide +kernel)) ggX9_day_X9_wrongInDay
set_option maxRecDepth 20000 in
theorem ggX9_day_X7_clear : GoodIn wsX9_day wsX7_clear := goodIn_r _ [46, 28, 314, 315] (by decide +kernel) (by decide +kernel)
set_option maxRecDepth 20000 in
theorem gX9_day_X7_clear : GoodIn wsX9_day (wsV RX9 92 RX7 yX7_clear wsX7_clear) := goodIn_app (goodIn_of _ (by decide +kernel)) ggX9_day_X7_clear
set_option maxRecDepth 20000 in
theorem ggX9_day_X5_note : GoodIn wsX9_day wsX5_note := goodIn_r _ [51, 52, 53, 54, 55, 56, 57, 58, 59, 60, 61, 62, 63, 64, 65, 66, 67, 316, 317, 318, 319, 320, 321, 322, 323] (by decide +kernel) (by decide +kernel)
set_option maxRecDepth 20000 in
theorem gX9_day_X5_note : GoodIn wsX9_day (wsV RX9 81 RX5 yX5_note wsX5_note) := goodIn_app (goodIn_of _ (by decide +kernel)) ggX9_day_X5_note
set_option maxRecDepth 20000 in
theorem ggX9_day_X9_doAct : GoodIn wsX9_day wsX9_doAct := goodIn_r _ [71, 1, 23, 24, 25, 26, 27, 28, 29, 72, 73, 74, 75, 76, 40, 41, 42, 38, 77, 78, 79, 13, 80, 3, 81, 82, 83, 84, 57, 85, 67, 86, 87, 88, 89, 90, 91, 92, 93, 94, 95, 96, 97, 98, 99, 66, 100, 101, 102, 103, 59, 104, 105, 106, 107, 108, 109, 110, 111, 112, 113, 114, 115, 116, 117, 118, 119, 120, 121, 122, 123, 124, 125, 126, 65, 127, 128, 129, 130, 131, 132, 133, 134, 135, 136, 137, 138, 139, 140, 141, 142, 143, 144, 145, 146, 147, 148, 149, 150, 61, 62, 63, 151, 152, 153, 154, 155, 156, 157, 158, 159, 160, 161, 162, 163, 164, 165, 7, 166, 167, 6, 8, 168, 169, 170, 171, 172, 173, 174, 175, 176, 177, 178, 179, 180, 181, 182, 183, 184, 185, 186, 34, 35, 36, 37, 187, 188, 189, 190, 191, 192, 193, 194, 195, 196, 197, 198, 199, 200, 201, 202, 203, 204, 205, 206, 207, 208, 209, 210, 211, 212, 213, 214, 215, 216, 217, 218, 219, 220, 221, 222, 223, 224, 225, 226, 227, 228, 229, 230, 231, 232, 233, 234, 235, 236, 237, 238, 239, 240, 241, 242, 243, 244, 245, 246, 247, 248, 249, 250, 251, 252, 253, 254, 255, 256, 257, 258, 259, 260, 261, 262, 263, 264, 265, 266, 267, 305, 306, 307, 308, 309, 310, 311, 312, 313, 314, 315, 319, 320, 321, 322, 323, 324, 325, 326, 327, 328, 329, 330, 331] (by decide +kernel) (by decide +kernel)
set_option maxRecDepth 20000 in
theorem gX9_day_X9_doAct : GoodIn wsX9_day (wsV RX9 315 RX9 yX9_doAct wsX9_doAct) := goodIn_app (goodIn_of _ (by decide +kernel)) ggX9_day_X9_doAct
set_option maxRecDepth 20000 in
theorem ggX9_day_X9_signsOfAct : GoodIn wsX9_day wsX9_signsOfAct := goodIn_r _ [22, 1, 23, 24, 25, 26, 27, 28, 29, 305, 306, 307, 308, 309, 310, 311, 312, 313, 314, 315] (by decide +kernel) (by decide +kernel)
set_option maxRecDepth 20000 in
theorem gX9_day_X9_signsOfAct : GoodIn wsX9_day (wsV RX9 318 RX9 yX9_signsOfAct wsX9_signsOfAct) := goodIn_app (goodIn_of _ (by decide +kernel)) ggX9_day_X9_signsOfAct
set_option maxRecDepth 20000 in
theorem ggX9_day_X5_hold : GoodIn wsX9_day wsX5_hold := goodIn_r _ [271, 53, 272, 273, 165, 7, 166, 316, 317, 318] (by decide +kernel) (by decide +kernel)
set_option maxRecDepth 20000 in
theorem gX9_day_X5_hold : GoodIn wsX9_day (wsV RX9 89 RX5 yX5_hold wsX5_hold) := goodIn_app (goodIn_of _ (by decide +kernel)) ggX9_day_X5_hold
set_option maxRecDepth 20000 in
theorem ggX9_day_X8_runsOfAll : GoodIn wsX9_day wsX8_runsOfAll := goodIn_r _ [277, 66, 100, 101, 102, 57, 103, 59, 104, 105, 106, 107, 278, 279, 280, 281, 67, 282, 283, 284, 285, 119, 120, 121, 122, 123, 124, 125, 126, 65, 319, 320, 321, 322, 323] (by decide +kernel) (by decide +kernel)
set_option maxRecDepth 20000 in
theorem gX9_day_X8_runsOfAll : GoodIn wsX9_day (wsV RX9 215 RX8 yX8_runsOfAll wsX8_runsOfAll) := goodIn_app (goodIn_of _ (by decide +kernel)) ggX9_day_X8_runsOfAll
set_option maxRecDepth 20000 in
theorem ggX9_day_X0_tell_ : GoodIn wsX9_day wsX0_tell_ := goodIn_r _ [290, 291, 292, 293, 289, 294, 295, 296, 297, 298, 299, 300, 301, 302, 303, 304, 332, 333] (by decide +kernel) (by decide +kernel)
set_option maxRecDepth 20000 in
theorem gX9_day_X0_tell_ : GoodIn wsX9_day (wsV RX9 212 RX0 yX0_tell_ wsX0_tell_) := goodIn_app (goodIn_of _ (by decide +kernel)) ggX9_day_X0_tell_
theorem dX9_day_0 : decode cX9_day 0 = .ok (.aload_n 0, 1) := by decide +kernel
theorem dX9_day_1 : decode cX9_day 1 = .ok (.invokevirtual 312, 3) := by decide +kernel
theorem dX9_day_4 : decode cX9_day 4 = .ok (.istore_n 1, 1) := by decide +kernel
theorem dX9_day_5 : decode cX9_day 5 = .ok (.iload_n 1, 1) := by decide +kernel
theorem dX9_day_6 : decode cX9_day 6 = .ok (.iconst (-1), 1) := by decide +kernel
theorem dX9_day_7 : decode cX9_day 7 = .ok (.if_icmp .eq 14, 3) := by decide +kernel
theorem dX9_day_10 : decode cX9_day 10 = .ok (.aload_n 0, 1) := by decide +kernel
theorem dX9_day_11 : decode cX9_day 11 = .ok (.getfield 34, 3) := by decide +kernel
theorem dX9_day_14 : decode cX9_day 14 = .ok (.invokevirtual 92, 3) := by decide +kernel
theorem dX9_day_17 : decode cX9_day 17 = .ok (.iconst (-1), 1) := by decide +kernel
theorem dX9_day_18 : decode cX9_day 18 = .ok (.iload_n 1, 1) := by decide +kernel
theorem dX9_day_19 : decode cX9_day 19 = .ok (.isub, 1) := by decide +kernel
theorem dX9_day_20 : decode cX9_day 20 = .ok (.ireturn, 1) := by decide +kernel
theorem dX9_day_21 : decode cX9_day 21 = .ok (.aload_n 0, 1) := by decide +kernel
theorem dX9_day_22 : decode cX9_day 22 = .ok (.getfield 19, 3) := by decide +kernel
theorem dX9_day_25 : decode cX9_day 25 = .ok (.aload_n 0, 1) := by decide +kernel
theorem dX9_day_26 : decode cX9_day 26 = .ok (.getfield 12, 3) := by decide +kernel
theorem dX9_day_29 : decode cX9_day 29 = .ok (.invokevirtual 81, 3) := by decide +kernel
theorem dX9_day_32 : decode cX9_day 32 = .ok (.iconst 0, 1) := by decide +kernel
theorem dX9_day_33 : decode cX9_day 33 = .ok (.istore_n 2, 1) := by decide +kernel
theorem dX9_day_34 : decode cX9_day 34 = .ok (.iconst 0, 1) := by decide +kernel
theorem dX9_day_35 : decode cX9_day 35 = .ok (.istore_n 3, 1) := by decide +kernel
theorem dX9_day_36 : decode cX9_day 36 = .ok (.iconst 0, 1) := by decide +kernel
theorem dX9_day_37 : decode cX9_day 37 = .ok (.istore 4, 2) := by decide +kernel
theorem dX9_day_39 : decode cX9_day 39 = .ok (.iload 4, 2) := by decide +kernel
theorem dX9_day_41 : decode cX9_day 41 = .ok (.aload_n 0, 1) := by decide +kernel
theorem dX9_day_42 : decode cX9_day 42 = .ok (.getfield 34, 3) := by decide +kernel
theorem dX9_day_45 : decode cX9_day 45 = .ok (.getfield 70, 3) := by decide +kernel
theorem dX9_day_48 : decode cX9_day 48 = .ok (.if_icmp .ge 42, 3) := by decide +kernel
theorem dX9_day_51 : decode cX9_day 51 = .ok (.iload_n 3, 1) := by decide +kernel
theorem dX9_day_52 : decode cX9_day 52 = .ok (.ifCond .ne 38, 3) := by decide +kernel
theorem dX9_day_55 : decode cX9_day 55 = .ok (.aload_n 0, 1) := by decide +kernel
theorem dX9_day_56 : decode cX9_day 56 = .ok (.iload 4, 2) := by decide +kernel
theorem dX9_day_58 : decode cX9_day 58 = .ok (.invokevirtual 315, 3) := by decide +kernel
theorem dX9_day_61 : decode cX9_day 61 = .ok (.ifCond .ge 8, 3) := by decide +kernel
theorem dX9_day_64 : decode cX9_day 64 = .ok (.iconst 1, 1) := by decide +kernel
theorem dX9_day_65 : decode cX9_day 65 = .ok (.istore_n 3, 1) := by decide +kernel
theorem dX9_day_66 : decode cX9_day 66 = .ok (.goto 6, 3) := by decide +kernel
theorem dX9_day_69 : decode cX9_day 69 = .ok (.iinc 2 1, 3) := by decide +kernel
theorem dX9_day_72 : decode cX9_day 72 = .ok (.iload 4, 2) := by decide +kernel
theorem dX9_day_74 : decode cX9_day 74 = .ok (.iconst 1, 1) := by decide +kernel
theorem dX9_day_75 : decode cX9_day 75 = .ok (.aload_n 0, 1) := by decide +kernel
theorem dX9_day_76 : decode cX9_day 76 = .ok (.iload 4, 2) := by decide +kernel
theorem dX9_day_78 : decode cX9_day 78 = .ok (.invokevirtual 318, 3) := by decide +kernel
theorem dX9_day_81 : decode cX9_day 81 = .ok (.invokestatic 321, 3) := by decide +kernel
theorem dX9_day_84 : decode cX9_day 84 = .ok (.iadd, 1) := by decide +kernel
theorem dX9_day_85 : decode cX9_day 85 = .ok (.istore 4, 2) := by decide +kernel
theorem dX9_day_87 : decode cX9_day 87 = .ok (.goto (-48), 3) := by decide +kernel
theorem dX9_day_90 : decode cX9_day 90 = .ok (.aload_n 0, 1) := by decide +kernel
theorem dX9_day_91 : decode cX9_day 91 = .ok (.getfield 34, 3) := by decide +kernel
theorem dX9_day_94 : decode cX9_day 94 = .ok (.invokevirtual 92, 3) := by decide +kernel
theorem dX9_day_97 : decode cX9_day 97 = .ok (.iload_n 2, 1) := by decide +kernel
theorem dX9_day_98 : decode cX9_day 98 = .ok (.ifCond .le 10, 3) := by decide +kernel
theorem dX9_day_101 : decode cX9_day 101 = .ok (.aload_n 0, 1) := by decide +kernel
theorem dX9_day_102 : decode cX9_day 102 = .ok (.getfield 19, 3) := by decide +kernel
theorem dX9_day_105 : decode cX9_day 105 = .ok (.invokevirtual 89, 3) := by decide +kernel
theorem dX9_day_108 : decode cX9_day 108 = .ok (.aload_n 0, 1) := by decide +kernel
theorem dX9_day_109 : decode cX9_day 109 = .ok (.getfield 41, 3) := by decide +kernel
theorem dX9_day_112 : decode cX9_day 112 = .ok (.iload_n 3, 1) := by decide +kernel
theorem dX9_day_113 : decode cX9_day 113 = .ok (.i2l, 1) := by decide +kernel
theorem dX9_day_114 : decode cX9_day 114 = .ok (.aload_n 0, 1) := by decide +kernel
theorem dX9_day_115 : decode cX9_day 115 = .ok (.getfield 12, 3) := by decide +kernel
theorem dX9_day_118 : decode cX9_day 118 = .ok (.invokevirtual 215, 3) := by decide +kernel
theorem dX9_day_121 : decode cX9_day 121 = .ok (.i2l, 1) := by decide +kernel
theorem dX9_day_122 : decode cX9_day 122 = .ok (.invokevirtual 212, 3) := by decide +kernel
theorem dX9_day_125 : decode cX9_day 125 = .ok (.iload_n 2, 1) := by decide +kernel
theorem dX9_day_126 : decode cX9_day 126 = .ok (.ireturn, 1) := by decide +kernel
set_option maxRecDepth 20000 in
theorem ggX9_wrongInDay_X9_wrongInAct : GoodIn wsX9_wrongInDay wsX9_wrongInAct := goodIn_r _ [11, 1, 12, 13, 14, 10, 15, 16, 17, 18, 19, 20, 21, 22, 23, 24, 25, 26, 27, 28, 29, 30, 31, 32, 33, 34, 35, 36, 37, 38, 39, 40, 41, 42, 43, 44, 45, 46] (by decide +kernel) (by decide +kernel)
set_option maxRecDepth 20000 in
theorem gX9_wrongInDay_X9_wrongInAct : GoodIn wsX9_wrongInDay (wsV RX9 324 RX9 yX9_wrongInAct wsX9_wrongInAct) := goodIn_app (goodIn_of _ (by decide +kernel)) ggX9_wrongInDay_X9_wrongInAct
set_option maxRecDepth 20000 in
theorem ggX9_wrongInDay_X9_signsOfAct : GoodIn wsX9_wrongInDay wsX9_signsOfAct := goodIn_r _ [15, 1, 16, 17, 18, 19, 20, 21, 22, 36, 37, 38, 39, 40, 41, 42, 43, 44, 45, 46] (by decide +kernel) (by decide +kernel)
set_option maxRecDepth 20000 in
theorem gX9_wrongInDay_X9_signsOfAct : GoodIn wsX9_wrongInDay (wsV RX9 318 RX9 yX9_signsOfAct wsX9_signsOfAct) := goodIn_app (goodIn_of _ (by decide +kernel)) ggX9_wrongInDay_X9_signsOfAct
theorem dX9_wrongInDay_0 : decode cX9_wrongInDay 0 = .ok (.iconst 0, 1) := by decide +kernel
theorem dX9_wrongInDay_1 : decode cX9_wrongInDay 1 = .ok (.istore_n 1, 1) := by decide +kernel
theorem dX9_wrongInDay_2 : decode cX9_wrongInDay 2 = .ok (.iload_n 1, 1) := by decide +kernel
theorem dX9_wrongInDay_3 : decode cX9_wrongInDay 3 = .ok (.aload_n 0, 1) := by decide +kernel
theorem dX9_wrongInDay_4 : decode cX9_wrongInDay 4 = .ok (.getfield 34, 3) := by decide +kernel
theorem dX9_wrongInDay_7 : decode cX9_wrongInDay 7 = .ok (.getfield 70, 3) := by decide +kernel
theorem dX9_wrongInDay_10 : decode cX9_wrongInDay 10 = .ok (.if_icmp .ge 31, 3) := by decide +kernel
theorem dX9_wrongInDay_13 : decode cX9_wrongInDay 13 = .ok (.aload_n 0, 1) := by decide +kernel
theorem dX9_wrongInDay_14 : decode cX9_wrongInDay 14 = .ok (.iload_n 1, 1) := by decide +kernel
theorem dX9_wrongInDay_15 : decode cX9_wrongInDay 15 = .ok (.invokevirtual 324, 3) := by decide +kernel
theorem dX9_wrongInDay_18 : decode cX9_wrongInDay 18 = .ok (.istore_n 2, 1) := by decide +kernel
theorem dX9_wrongInDay_19 : decode cX9_wrongInDay 19 = .ok (.iload_n 2, 1) := by decide +kernel
theorem dX9_wrongInDay_20 : decode cX9_wrongInDay 20 = .ok (.iconst (-1), 1) := by decide +kernel
theorem dX9_wrongInDay_21 : decode cX9_wrongInDay 21 = .ok (.if_icmp .eq 5, 3) := by decide +kernel
theorem dX9_wrongInDay_24 : decode cX9_wrongInDay 24 = .ok (.iload_n 2, 1) := by decide +kernel
theorem dX9_wrongInDay_25 : decode cX9_wrongInDay 25 = .ok (.ireturn, 1) := by decide +kernel
theorem dX9_wrongInDay_26 : decode cX9_wrongInDay 26 = .ok (.iload_n 1, 1) := by decide +kernel
theorem dX9_wrongInDay_27 : decode cX9_wrongInDay 27 = .ok (.iconst 1, 1) := by decide +kernel
theorem dX9_wrongInDay_28 : decode cX9_wrongInDay 28 = .ok (.aload_n 0, 1) := by decide +kernel
theorem dX9_wrongInDay_29 : decode cX9_wrongInDay 29 = .ok (.iload_n 1, 1) := by decide +kernel
theorem dX9_wrongInDay_30 : decode cX9_wrongInDay 30 = .ok (.invokevirtual 318, 3) := by decide +kernel
theorem dX9_wrongInDay_33 : decode cX9_wrongInDay 33 = .ok (.invokestatic 321, 3) := by decide +kernel
theorem dX9_wrongInDay_36 : decode cX9_wrongInDay 36 = .ok (.iadd, 1) := by decide +kernel
theorem dX9_wrongInDay_37 : decode cX9_wrongInDay 37 = .ok (.istore_n 1, 1) := by decide +kernel
theorem dX9_wrongInDay_38 : decode cX9_wrongInDay 38 = .ok (.goto (-36), 3) := by decide +kernel
theorem dX9_wrongInDay_41 : decode cX9_wrongInDay 41 = .ok (.iconst (-1), 1) := by decide +kernel
theorem dX9_wrongInDay_42 : decode cX9_wrongInDay 42 = .ok (.ireturn, 1) := by decide +kernel
set_option maxRecDepth 20000 in
theorem ggX9_wrongInAct_X9_signsOfAct : GoodIn wsX9_wrongInAct wsX9_signsOfAct := goodIn_r _ [6, 1, 7, 8, 9, 10, 11, 12, 13, 27, 28, 29, 30, 31, 32, 33, 34, 35, 36, 37] (by decide +kernel) (by decide +kernel)
set_option maxRecDepth 20000 in
theorem gX9_wrongInAct_X9_signsOfAct : GoodIn wsX9_wrongInAct (wsV RX9 318 RX9 yX9_signsOfAct wsX9_signsOfAct) := goodIn_app (goodIn_of _ (by decide +kernel)) ggX9_wrongInAct_X9_signsOfAct
set_option maxRecDepth 20000 in
theorem ggX9_wrongInAct_X7_signAt : GoodIn wsX9_wrongInAct wsX7_signAt := goodIn_r _ [11, 12, 13, 36, 37] (by decide +kernel) (by decide +kernel)
set_option maxRecDepth 20000 in
theorem gX9_wrongInAct_X7_signAt : GoodIn wsX9_wrongInAct (wsV RX9 105 RX7 yX7_signAt wsX7_signAt) := goodIn_app (goodIn_of _ (by decide +kernel)) ggX9_wrongInAct_X7_signAt
set_option maxRecDepth 20000 in
theorem ggX9_wrongInAct_X9_isColumnLetter : GoodIn wsX9_wrongInAct wsX9_isColumnLetter := goodIn_r _ [17, 1, 18, 19, 20, 10, 21, 22, 8, 9, 11, 12, 13, 27, 28, 29, 30, 31, 32, 33, 34, 35, 36, 37] (by decide +kernel) (by decide +kernel)
set_option maxRecDepth 20000 in
theorem gX9_wrongInAct_X9_isColumnLetter : GoodIn wsX9_wrongInAct (wsV RX9 327 RX9 yX9_isColumnLetter wsX9_isColumnLetter) := goodIn_app (goodIn_of _ (by decide +kernel)) ggX9_wrongInAct_X9_isColumnLetter
set_option maxRecDepth 20000 in
theorem ggX9_wrongInAct_X7_digitAt : GoodIn wsX9_wrongInAct wsX7_digitAt := goodIn_r _ [26, 22, 8, 9, 10, 11, 12, 13, 36, 37] (by decide +kernel) (by decide +kernel)
set_option maxRecDepth 20000 in
theorem gX9_wrongInAct_X7_digitAt : GoodIn wsX9_wrongInAct (wsV RX9 98 RX7 yX7_digitAt wsX7_digitAt) := goodIn_app (goodIn_of _ (by decide +kernel)) ggX9_wrongInAct_X7_digitAt
theorem dX9_wrongInAct_0 : decode cX9_wrongInAct 0 = .ok (.aload_n 0, 1) := by decide +kernel
theorem dX9_wrongInAct_1 : decode cX9_wrongInAct 1 = .ok (.iload_n 1, 1) := by decide +kernel
theorem dX9_wrongInAct_2 : decode cX9_wrongInAct 2 = .ok (.invokevirtual 318, 3) := by decide +kernel
theorem dX9_wrongInAct_5 : decode cX9_wrongInAct 5 = .ok (.istore_n 2, 1) := by decide +kernel
theorem dX9_wrongInAct_6 : decode cX9_wrongInAct 6 = .ok (.iload_n 2, 1) := by decide +kernel
theorem dX9_wrongInAct_7 : decode cX9_wrongInAct 7 = .ok (.ifCond .ne 5, 3) := by decide +kernel
theorem dX9_wrongInAct_10 : decode cX9_wrongInAct 10 = .ok (.iload_n 1, 1) := by decide +kernel
theorem dX9_wrongInAct_11 : decode cX9_wrongInAct 11 = .ok (.ireturn, 1) := by decide +kernel
theorem dX9_wrongInAct_12 : decode cX9_wrongInAct 12 = .ok (.aload_n 0, 1) := by decide +kernel
theorem dX9_wrongInAct_13 : decode cX9_wrongInAct 13 = .ok (.getfield 34, 3) := by decide +kernel
theorem dX9_wrongInAct_16 : decode cX9_wrongInAct 16 = .ok (.iload_n 1, 1) := by decide +kernel
theorem dX9_wrongInAct_17 : decode cX9_wrongInAct 17 = .ok (.invokevirtual 105, 3) := by decide +kernel
theorem dX9_wrongInAct_20 : decode cX9_wrongInAct 20 = .ok (.bipush 112, 2) := by decide +kernel
theorem dX9_wrongInAct_22 : decode cX9_wrongInAct 22 = .ok (.if_icmp .ne 7, 3) := by decide +kernel
theorem dX9_wrongInAct_25 : decode cX9_wrongInAct 25 = .ok (.iconst 1, 1) := by decide +kernel
theorem dX9_wrongInAct_26 : decode cX9_wrongInAct 26 = .ok (.goto 4, 3) := by decide +kernel
theorem dX9_wrongInAct_29 : decode cX9_wrongInAct 29 = .ok (.iconst 0, 1) := by decide +kernel
theorem dX9_wrongInAct_30 : decode cX9_wrongInAct 30 = .ok (.istore_n 3, 1) := by decide +kernel
theorem dX9_wrongInAct_31 : decode cX9_wrongInAct 31 = .ok (.iload_n 3, 1) := by decide +kernel
theorem dX9_wrongInAct_32 : decode cX9_wrongInAct 32 = .ok (.ifCond .eq 17, 3) := by decide +kernel
theorem dX9_wrongInAct_35 : decode cX9_wrongInAct 35 = .ok (.aload_n 0, 1) := by decide +kernel
theorem dX9_wrongInAct_36 : decode cX9_wrongInAct 36 = .ok (.iload_n 1, 1) := by decide +kernel
theorem dX9_wrongInAct_37 : decode cX9_wrongInAct 37 = .ok (.iconst 1, 1) := by decide +kernel
theorem dX9_wrongInAct_38 : decode cX9_wrongInAct 38 = .ok (.iadd, 1) := by decide +kernel
theorem dX9_wrongInAct_39 : decode cX9_wrongInAct 39 = .ok (.invokevirtual 327, 3) := by decide +kernel
theorem dX9_wrongInAct_42 : decode cX9_wrongInAct 42 = .ok (.ifCond .ne 7, 3) := by decide +kernel
theorem dX9_wrongInAct_45 : decode cX9_wrongInAct 45 = .ok (.iload_n 1, 1) := by decide +kernel
theorem dX9_wrongInAct_46 : decode cX9_wrongInAct 46 = .ok (.iconst 1, 1) := by decide +kernel
theorem dX9_wrongInAct_47 : decode cX9_wrongInAct 47 = .ok (.iadd, 1) := by decide +kernel
theorem dX9_wrongInAct_48 : decode cX9_wrongInAct 48 = .ok (.ireturn, 1) := by decide +kernel
theorem dX9_wrongInAct_49 : decode cX9_wrongInAct 49 = .ok (.iload_n 3, 1) := by decide +kernel
theorem dX9_wrongInAct_50 : decode cX9_wrongInAct 50 = .ok (.ifCond .eq 9, 3) := by decide +kernel
theorem dX9_wrongInAct_53 : decode cX9_wrongInAct 53 = .ok (.iload_n 1, 1) := by decide +kernel
theorem dX9_wrongInAct_54 : decode cX9_wrongInAct 54 = .ok (.iconst 2, 1) := by decide +kernel
theorem dX9_wrongInAct_55 : decode cX9_wrongInAct 55 = .ok (.iadd, 1) := by decide +kernel
theorem dX9_wrongInAct_56 : decode cX9_wrongInAct 56 = .ok (.goto 6, 3) := by decide +kernel
theorem dX9_wrongInAct_59 : decode cX9_wrongInAct 59 = .ok (.iload_n 1, 1) := by decide +kernel
theorem dX9_wrongInAct_60 : decode cX9_wrongInAct 60 = .ok (.iconst 1, 1) := by decide +kernel
theorem dX9_wrongInAct_61 : decode cX9_wrongInAct 61 = .ok (.iadd, 1) := by decide +kernel
theorem dX9_wrongInAct_62 : decode cX9_wrongInAct 62 = .ok (.istore 4, 2) := by decide +kernel
theorem dX9_wrongInAct_64 : decode cX9_wrongInAct 64 = .ok (.iload 4, 2) := by decide +kernel
theorem dX9_wrongInAct_66 : decode cX9_wrongInAct 66 = .ok (.iload_n 1, 1) := by decide +kernel
theorem dX9_wrongInAct_67 : decode cX9_wrongInAct 67 = .ok (.iload_n 2, 1) := by decide +kernel
theorem dX9_wrongInAct_68 : decode cX9_wrongInAct 68 = .ok (.iadd, 1) := by decide +kernel
theorem dX9_wrongInAct_69 : decode cX9_wrongInAct 69 = .ok (.if_icmp .ge 24, 3) := by decide +kernel
theorem dX9_wrongInAct_72 : decode cX9_wrongInAct 72 = .ok (.aload_n 0, 1) := by decide +kernel
theorem dX9_wrongInAct_73 : decode cX9_wrongInAct 73 = .ok (.getfield 34, 3) := by decide +kernel
theorem dX9_wrongInAct_76 : decode cX9_wrongInAct 76 = .ok (.iload 4, 2) := by decide +kernel
theorem dX9_wrongInAct_78 : decode cX9_wrongInAct 78 = .ok (.invokevirtual 98, 3) := by decide +kernel
theorem dX9_wrongInAct_81 : decode cX9_wrongInAct 81 = .ok (.ifCond .ge 6, 3) := by decide +kernel
theorem dX9_wrongInAct_84 : decode cX9_wrongInAct 84 = .ok (.iload 4, 2) := by decide +kernel
theorem dX9_wrongInAct_86 : decode cX9_wrongInAct 86 = .ok (.ireturn, 1) := by decide +kernel
theorem dX9_wrongInAct_87 : decode cX9_wrongInAct 87 = .ok (.iinc 4 1, 3) := by decide +kernel
theorem dX9_wrongInAct_90 : decode cX9_wrongInAct 90 = .ok (.goto (-26), 3) := by decide +kernel
theorem dX9_wrongInAct_93 : decode cX9_wrongInAct 93 = .ok (.iconst (-1), 1) := by decide +kernel
theorem dX9_wrongInAct_94 : decode cX9_wrongInAct 94 = .ok (.ireturn, 1) := by decide +kernel
set_option maxRecDepth 20000 in
theorem ggX9_isColumnLetter_X7_letterAt : GoodIn wsX9_isColumnLetter wsX7_letterAt := goodIn_r _ [6, 7, 8, 9, 5, 10, 11, 12, 22, 23] (by decide +kernel) (by decide +kernel)
set_option maxRecDepth 20000 in
theorem gX9_isColumnLetter_X7_letterAt : GoodIn wsX9_isColumnLetter (wsV RX9 330 RX7 yX7_letterAt wsX7_letterAt) := goodIn_app (goodIn_of _ (by decide +kernel)) ggX9_isColumnLetter_X7_letterAt
theorem dX9_isColumnLetter_0 : decode cX9_isColumnLetter 0 = .ok (.aload_n 0, 1) := by decide +kernel
theorem dX9_isColumnLetter_1 : decode cX9_isColumnLetter 1 = .ok (.getfield 34, 3) := by decide +kernel
theorem dX9_isColumnLetter_4 : decode cX9_isColumnLetter 4 = .ok (.iload_n 1, 1) := by decide +kernel
theorem dX9_isColumnLetter_5 : decode cX9_isColumnLetter 5 = .ok (.invokevirtual 330, 3) := by decide +kernel
theorem dX9_isColumnLetter_8 : decode cX9_isColumnLetter 8 = .ok (.ifCond .lt 20, 3) := by decide +kernel
theorem dX9_isColumnLetter_11 : decode cX9_isColumnLetter 11 = .ok (.aload_n 0, 1) := by decide +kernel
theorem dX9_isColumnLetter_12 : decode cX9_isColumnLetter 12 = .ok (.getfield 34, 3) := by decide +kernel
theorem dX9_isColumnLetter_15 : decode cX9_isColumnLetter 15 = .ok (.iload_n 1, 1) := by decide +kernel
theorem dX9_isColumnLetter_16 : decode cX9_isColumnLetter 16 = .ok (.invokevirtual 330, 3) := by decide +kernel
theorem dX9_isColumnLetter_19 : decode cX9_isColumnLetter 19 = .ok (.bipush 6, 2) := by decide +kernel
theorem dX9_isColumnLetter_21 : decode cX9_isColumnLetter 21 = .ok (.if_icmp .ge 7, 3) := by decide +kernel
theorem dX9_isColumnLetter_24 : decode cX9_isColumnLetter 24 = .ok (.iconst 1, 1) := by decide +kernel
theorem dX9_isColumnLetter_25 : decode cX9_isColumnLetter 25 = .ok (.goto 4, 3) := by decide +kernel
theorem dX9_isColumnLetter_28 : decode cX9_isColumnLetter 28 = .ok (.iconst 0, 1) := by decide +kernel
theorem dX9_isColumnLetter_29 : decode cX9_isColumnLetter 29 = .ok (.ireturn, 1) := by decide +kernel
set_option maxRecDepth 20000 in
theorem ggX9_signsOfAct_X7_signAt : GoodIn wsX9_signsOfAct wsX7_signAt := goodIn_r _ [6, 7, 8, 18, 19] (by decide +kernel) (by decide +kernel)
set_option maxRecDepth 20000 in
theorem gX9_signsOfAct_X7_signAt : GoodIn wsX9_signsOfAct (wsV RX9 105 RX7 yX7_signAt wsX7_signAt) := goodIn_app (goodIn_of _ (by decide +kernel)) ggX9_signsOfAct_X7_signAt
theorem dX9_signsOfAct_0 : decode cX9_signsOfAct 0 = .ok (.aload_n 0, 1) := by decide +kernel
theorem dX9_signsOfAct_1 : decode cX9_signsOfAct 1 = .ok (.getfield 34, 3) := by decide +kernel
theorem dX9_signsOfAct_4 : decode cX9_signsOfAct 4 = .ok (.iload_n 1, 1) := by decide +kernel
theorem dX9_signsOfAct_5 : decode cX9_signsOfAct 5 = .ok (.invokevirtual 105, 3) := by decide +kernel
theorem dX9_signsOfAct_8 : decode cX9_signsOfAct 8 = .ok (.tableswitch 57 109 116 #[48, 57, 57, 54, 57, 52, 48, 50], 48) := by decide +kernel
theorem dX9_signsOfAct_56 : decode cX9_signsOfAct 56 = .ok (.iconst 5, 1) := by decide +kernel
theorem dX9_signsOfAct_57 : decode cX9_signsOfAct 57 = .ok (.ireturn, 1) := by decide +kernel
theorem dX9_signsOfAct_58 : decode cX9_signsOfAct 58 = .ok (.iconst 3, 1) := by decide +kernel
theorem dX9_signsOfAct_59 : decode cX9_signsOfAct 59 = .ok (.ireturn, 1) := by decide +kernel
theorem dX9_signsOfAct_60 : decode cX9_signsOfAct 60 = .ok (.iconst 1, 1) := by decide +kernel
theorem dX9_signsOfAct_61 : decode cX9_signsOfAct 61 = .ok (.ireturn, 1) := by decide +kernel
theorem dX9_signsOfAct_62 : decode cX9_signsOfAct 62 = .ok (.bipush 8, 2) := by decide +kernel
theorem dX9_signsOfAct_64 : decode cX9_signsOfAct 64 = .ok (.ireturn, 1) := by decide +kernel
theorem dX9_signsOfAct_65 : decode cX9_signsOfAct 65 = .ok (.iconst 0, 1) := by decide +kernel
theorem dX9_signsOfAct_66 : decode cX9_signsOfAct 66 = .ok (.ireturn, 1) := by decide +kernel
set_option maxRecDepth 20000 in
theorem ggX9_doAct_X7_signAt : GoodIn wsX9_doAct wsX7_signAt := goodIn_r _ [6, 7, 8, 235, 236] (by decide +kernel) (by decide +kernel)
set_option maxRecDepth 20000 in
theorem gX9_doAct_X7_signAt : GoodIn wsX9_doAct (wsV RX9 105 RX7 yX7_signAt wsX7_signAt) := goodIn_app (goodIn_of _ (by decide +kernel)) ggX9_doAct_X7_signAt
set_option maxRecDepth 20000 in
theorem ggX9_doAct_X7_twoDigitsAt : GoodIn wsX9_doAct wsX7_twoDigitsAt := goodIn_r _ [12, 13, 14, 15, 5, 16, 17, 3, 4, 6, 7, 8, 235, 236] (by decide +kernel) (by decide +kernel)
set_option maxRecDepth 20000 in
theorem gX9_doAct_X7_twoDigitsAt : GoodIn wsX9_doAct (wsV RX9 102 RX7 yX7_twoDigitsAt wsX7_twoDigitsAt) := goodIn_app (goodIn_of _ (by decide +kernel)) ggX9_doAct_X7_twoDigitsAt
set_option maxRecDepth 20000 in
theorem ggX9_doAct_X9_moveTold : GoodIn wsX9_doAct wsX9_moveTold := goodIn_r _ [22, 23, 24, 25, 26, 27, 28, 29, 30, 31, 32, 33, 34, 35, 36, 37, 38, 39, 40, 41, 42, 43, 44, 45, 46, 47, 48, 49, 50, 51, 52, 53, 54, 55, 56, 57, 58, 59, 60, 61, 62, 63, 64, 65, 66, 67, 68, 69, 70, 71, 72, 73, 74, 75, 76, 77, 78, 79, 80, 81, 82, 83, 84, 85, 86, 87, 88, 89, 90, 91, 92, 93, 94, 95, 96, 97, 98, 99, 100, 101, 102, 103, 226, 227, 228, 229, 230, 231, 232, 233, 234, 237, 238, 239, 240, 241, 242, 243, 244, 245, 246, 247, 248, 249] (by decide +kernel) (by decide +kernel)
set_option maxRecDepth 20000 in
theorem gX9_doAct_X9_moveTold : GoodIn wsX9_doAct (wsV RX9 292 RX9 yX9_moveTold wsX9_moveTold) := goodIn_app (goodIn_of _ (by decide +kernel)) ggX9_doAct_X9_moveTold
set_option maxRecDepth 20000 in
theorem ggX9_doAct_X9_tourTold : GoodIn wsX9_doAct wsX9_tourTold := goodIn_r _ [107, 24, 23, 108, 109, 21, 110, 31, 32, 33, 34, 35, 36, 37, 38, 39, 40, 41, 42, 43, 28, 44, 45, 46, 47, 48, 49, 50, 51, 52, 53, 54, 55, 56, 57, 58, 59, 60, 61, 62, 63, 64, 65, 66, 67, 68, 69, 70, 71, 72, 73, 74, 111, 112, 113, 114, 115, 116, 117, 118, 119, 120, 121, 122, 123, 124, 125, 126, 98, 99, 100, 101, 127, 76, 77, 78, 79, 80, 81, 82, 128, 129, 130, 131, 132, 88, 89, 90, 91, 92, 93, 94, 95, 96, 97, 102, 103, 226, 227, 228, 229, 230, 231, 232, 233, 234, 237, 238, 239, 240, 241, 242, 243, 244, 245, 246, 247, 248, 249] (by decide +kernel) (by decide +kernel)
set_option maxRecDepth 20000 in
theorem gX9_doAct_X9_tourTold : GoodIn wsX9_doAct (wsV RX9 283 RX9 yX9_tourTold wsX9_tourTold) := goodIn_app (goodIn_of _ (by decide +kernel)) ggX9_doAct_X9_tourTold
set_option maxRecDepth 20000 in
theorem ggX9_doAct_X9_restoreTold : GoodIn wsX9_doAct wsX9_restoreTold := goodIn_r _ [136, 24, 23, 31, 32, 33, 34, 35, 36, 37, 38, 39, 40, 41, 42, 43, 28, 44, 45, 46, 47, 48, 49, 50, 51, 52, 53, 54, 55, 56, 57, 58, 59, 60, 61, 62, 63, 64, 65, 66, 67, 68, 69, 70, 71, 72, 73, 74, 137, 138, 139, 140, 103, 91, 92, 93, 94, 95, 96, 97, 98, 99, 100, 101, 102, 226, 227, 228, 229, 230, 231, 232, 233, 234, 237, 238, 239, 240, 241, 242, 243, 244, 245, 246, 247, 248, 249] (by decide +kernel) (by decide +kernel)
set_option maxRecDepth 20000 in
theorem gX9_doAct_X9_restoreTold : GoodIn wsX9_doAct (wsV RX9 303 RX9 yX9_restoreTold wsX9_restoreTold) := goodIn_app (goodIn_of _ (by decide +kernel)) ggX9_doAct_X9_restoreTold
set_option maxRecDepth 20000 in
theorem ggX9_doAct_X7_letterAt : GoodIn wsX9_doAct wsX7_letterAt := goodIn_r _ [144, 17, 3, 4, 5, 6, 7, 8, 235, 236] (by decide +kernel) (by decide +kernel)
set_option maxRecDepth 20000 in
theorem gX9_doAct_X7_letterAt : GoodIn wsX9_doAct (wsV RX9 330 RX7 yX7_letterAt wsX7_letterAt) := goodIn_app (goodIn_of _ (by decide +kernel)) ggX9_doAct_X7_letterAt
set_option maxRecDepth 20000 in
theorem ggX9_doAct_X9_putTold : GoodIn wsX9_doAct wsX9_putTold := goodIn_r _ [148, 23, 149, 52, 53, 28, 54, 45, 150, 151, 152, 153, 154, 155, 156, 157, 158, 159, 160, 50, 161, 162, 163, 164, 165, 166, 167, 168, 169, 170, 26, 27, 29, 30, 171, 172, 173, 174, 175, 176, 177, 178, 179, 180, 181, 182, 183, 184, 185, 186, 187, 188, 189, 190, 191, 192, 193, 194, 195, 196, 197, 198, 199, 200, 201, 202, 57, 203, 204, 205, 206, 207, 208, 209, 210, 211, 212, 213, 214, 215, 74, 216, 217, 218, 219, 220, 221, 222, 223, 224, 225, 226, 227, 228, 229, 230, 231, 232, 233, 234, 237, 238, 239, 240, 241] (by decide +kernel) (by decide +kernel)
set_option maxRecDepth 20000 in
theorem gX9_doAct_X9_putTold : GoodIn wsX9_doAct (wsV RX9 125 RX9 yX9_putTold wsX9_putTold) := goodIn_app (goodIn_of _ (by decide +kernel)) ggX9_doAct_X9_putTold
theorem dX9_doAct_0 : decode cX9_doAct 0 = .ok (.aload_n 0, 1) := by decide +kernel
theorem dX9_doAct_1 : decode cX9_doAct 1 = .ok (.getfield 34, 3) := by decide +kernel
theorem dX9_doAct_4 : decode cX9_doAct 4 = .ok (.iload_n 1, 1) := by decide +kernel
theorem dX9_doAct_5 : decode cX9_doAct 5 = .ok (.invokevirtual 105, 3) := by decide +kernel
theorem dX9_doAct_8 : decode cX9_doAct 8 = .ok (.tableswitch 120 109 116 #[74, 120, 120, 120, 120, 115, 48, 100], 48) := by decide +kernel
theorem dX9_doAct_56 : decode cX9_doAct 56 = .ok (.aload_n 0, 1) := by decide +kernel
theorem dX9_doAct_57 : decode cX9_doAct 57 = .ok (.aload_n 0, 1) := by decide +kernel
theorem dX9_doAct_58 : decode cX9_doAct 58 = .ok (.getfield 34, 3) := by decide +kernel
theorem dX9_doAct_61 : decode cX9_doAct 61 = .ok (.iload_n 1, 1) := by decide +kernel
theorem dX9_doAct_62 : decode cX9_doAct 62 = .ok (.iconst 1, 1) := by decide +kernel
theorem dX9_doAct_63 : decode cX9_doAct 63 = .ok (.iadd, 1) := by decide +kernel
theorem dX9_doAct_64 : decode cX9_doAct 64 = .ok (.invokevirtual 102, 3) := by decide +kernel
theorem dX9_doAct_67 : decode cX9_doAct 67 = .ok (.aload_n 0, 1) := by decide +kernel
theorem dX9_doAct_68 : decode cX9_doAct 68 = .ok (.getfield 34, 3) := by decide +kernel
theorem dX9_doAct_71 : decode cX9_doAct 71 = .ok (.iload_n 1, 1) := by decide +kernel
theorem dX9_doAct_72 : decode cX9_doAct 72 = .ok (.iconst 3, 1) := by decide +kernel
theorem dX9_doAct_73 : decode cX9_doAct 73 = .ok (.iadd, 1) := by decide +kernel
theorem dX9_doAct_74 : decode cX9_doAct 74 = .ok (.invokevirtual 102, 3) := by decide +kernel
theorem dX9_doAct_77 : decode cX9_doAct 77 = .ok (.iconst 1, 1) := by decide +kernel
theorem dX9_doAct_78 : decode cX9_doAct 78 = .ok (.invokevirtual 292, 3) := by decide +kernel
theorem dX9_doAct_81 : decode cX9_doAct 81 = .ok (.ireturn, 1) := by decide +kernel
theorem dX9_doAct_82 : decode cX9_doAct 82 = .ok (.aload_n 0, 1) := by decide +kernel
theorem dX9_doAct_83 : decode cX9_doAct 83 = .ok (.aload_n 0, 1) := by decide +kernel
theorem dX9_doAct_84 : decode cX9_doAct 84 = .ok (.getfield 34, 3) := by decide +kernel
theorem dX9_doAct_87 : decode cX9_doAct 87 = .ok (.iload_n 1, 1) := by decide +kernel
theorem dX9_doAct_88 : decode cX9_doAct 88 = .ok (.iconst 1, 1) := by decide +kernel
theorem dX9_doAct_89 : decode cX9_doAct 89 = .ok (.iadd, 1) := by decide +kernel
theorem dX9_doAct_90 : decode cX9_doAct 90 = .ok (.invokevirtual 102, 3) := by decide +kernel
theorem dX9_doAct_93 : decode cX9_doAct 93 = .ok (.aload_n 0, 1) := by decide +kernel
theorem dX9_doAct_94 : decode cX9_doAct 94 = .ok (.getfield 34, 3) := by decide +kernel
theorem dX9_doAct_97 : decode cX9_doAct 97 = .ok (.iload_n 1, 1) := by decide +kernel
theorem dX9_doAct_98 : decode cX9_doAct 98 = .ok (.iconst 3, 1) := by decide +kernel
theorem dX9_doAct_99 : decode cX9_doAct 99 = .ok (.iadd, 1) := by decide +kernel
theorem dX9_doAct_100 : decode cX9_doAct 100 = .ok (.invokevirtual 102, 3) := by decide +kernel
theorem dX9_doAct_103 : decode cX9_doAct 103 = .ok (.iconst 0, 1) := by decide +kernel
theorem dX9_doAct_104 : decode cX9_doAct 104 = .ok (.invokevirtual 292, 3) := by decide +kernel
theorem dX9_doAct_107 : decode cX9_doAct 107 = .ok (.ireturn, 1) := by decide +kernel
theorem dX9_doAct_108 : decode cX9_doAct 108 = .ok (.aload_n 0, 1) := by decide +kernel
theorem dX9_doAct_109 : decode cX9_doAct 109 = .ok (.aload_n 0, 1) := by decide +kernel
theorem dX9_doAct_110 : decode cX9_doAct 110 = .ok (.getfield 34, 3) := by decide +kernel
theorem dX9_doAct_113 : decode cX9_doAct 113 = .ok (.iload_n 1, 1) := by decide +kernel
theorem dX9_doAct_114 : decode cX9_doAct 114 = .ok (.iconst 1, 1) := by decide +kernel
theorem dX9_doAct_115 : decode cX9_doAct 115 = .ok (.iadd, 1) := by decide +kernel
theorem dX9_doAct_116 : decode cX9_doAct 116 = .ok (.invokevirtual 102, 3) := by decide +kernel
theorem dX9_doAct_119 : decode cX9_doAct 119 = .ok (.invokevirtual 283, 3) := by decide +kernel
theorem dX9_doAct_122 : decode cX9_doAct 122 = .ok (.ireturn, 1) := by decide +kernel
theorem dX9_doAct_123 : decode cX9_doAct 123 = .ok (.aload_n 0, 1) := by decide +kernel
theorem dX9_doAct_124 : decode cX9_doAct 124 = .ok (.invokevirtual 303, 3) := by decide +kernel
theorem dX9_doAct_127 : decode cX9_doAct 127 = .ok (.ireturn, 1) := by decide +kernel
theorem dX9_doAct_128 : decode cX9_doAct 128 = .ok (.aload_n 0, 1) := by decide +kernel
theorem dX9_doAct_129 : decode cX9_doAct 129 = .ok (.aload_n 0, 1) := by decide +kernel
theorem dX9_doAct_130 : decode cX9_doAct 130 = .ok (.getfield 34, 3) := by decide +kernel
theorem dX9_doAct_133 : decode cX9_doAct 133 = .ok (.iload_n 1, 1) := by decide +kernel
theorem dX9_doAct_134 : decode cX9_doAct 134 = .ok (.iconst 1, 1) := by decide +kernel
theorem dX9_doAct_135 : decode cX9_doAct 135 = .ok (.iadd, 1) := by decide +kernel
theorem dX9_doAct_136 : decode cX9_doAct 136 = .ok (.invokevirtual 330, 3) := by decide +kernel
theorem dX9_doAct_139 : decode cX9_doAct 139 = .ok (.aload_n 0, 1) := by decide +kernel
theorem dX9_doAct_140 : decode cX9_doAct 140 = .ok (.getfield 34, 3) := by decide +kernel
theorem dX9_doAct_143 : decode cX9_doAct 143 = .ok (.iload_n 1, 1) := by decide +kernel
theorem dX9_doAct_144 : decode cX9_doAct 144 = .ok (.iconst 2, 1) := by decide +kernel
theorem dX9_doAct_145 : decode cX9_doAct 145 = .ok (.iadd, 1) := by decide +kernel
theorem dX9_doAct_146 : decode cX9_doAct 146 = .ok (.invokevirtual 102, 3) := by decide +kernel
theorem dX9_doAct_149 : decode cX9_doAct 149 = .ok (.aload_n 0, 1) := by decide +kernel
theorem dX9_doAct_150 : decode cX9_doAct 150 = .ok (.getfield 34, 3) := by decide +kernel
theorem dX9_doAct_153 : decode cX9_doAct 153 = .ok (.iload_n 1, 1) := by decide +kernel
theorem dX9_doAct_154 : decode cX9_doAct 154 = .ok (.iconst 4, 1) := by decide +kernel
theorem dX9_doAct_155 : decode cX9_doAct 155 = .ok (.iadd, 1) := by decide +kernel
theorem dX9_doAct_156 : decode cX9_doAct 156 = .ok (.invokevirtual 102, 3) := by decide +kernel
theorem dX9_doAct_159 : decode cX9_doAct 159 = .ok (.aload_n 0, 1) := by decide +kernel
theorem dX9_doAct_160 : decode cX9_doAct 160 = .ok (.getfield 34, 3) := by decide +kernel
theorem dX9_doAct_163 : decode cX9_doAct 163 = .ok (.iload_n 1, 1) := by decide +kernel
theorem dX9_doAct_164 : decode cX9_doAct 164 = .ok (.bipush 6, 2) := by decide +kernel
theorem dX9_doAct_166 : decode cX9_doAct 166 = .ok (.iadd, 1) := by decide +kernel
theorem dX9_doAct_167 : decode cX9_doAct 167 = .ok (.invokevirtual 102, 3) := by decide +kernel
theorem dX9_doAct_170 : decode cX9_doAct 170 = .ok (.invokevirtual 125, 3) := by decide +kernel
theorem dX9_doAct_173 : decode cX9_doAct 173 = .ok (.ireturn, 1) := by decide +kernel
set_option maxRecDepth 20000 in
theorem ggX9_undo_X5_goBack : GoodIn wsX9_undo wsX5_goBack := goodIn_r _ [7, 8, 9, 10, 11, 12, 13, 14, 15, 16, 17, 18, 19, 20, 21, 22, 23, 24, 34, 35, 36, 37, 38, 39, 40, 41] (by decide +kernel) (by decide +kernel)
set_option maxRecDepth 20000 in
theorem gX9_undo_X5_goBack : GoodIn wsX9_undo (wsV RX9 333 RX5 yX5_goBack wsX5_goBack) := goodIn_app (goodIn_of _ (by decide +kernel)) ggX9_undo_X5_goBack
theorem dX9_undo_0 : decode cX9_undo 0 = .ok (.aload_n 0, 1) := by decide +kernel
theorem dX9_undo_1 : decode cX9_undo 1 = .ok (.getfield 19, 3) := by decide +kernel
theorem dX9_undo_4 : decode cX9_undo 4 = .ok (.aload_n 0, 1) := by decide +kernel
theorem dX9_undo_5 : decode cX9_undo 5 = .ok (.getfield 12, 3) := by decide +kernel
theorem dX9_undo_8 : decode cX9_undo 8 = .ok (.invokevirtual 333, 3) := by decide +kernel
theorem dX9_undo_11 : decode cX9_undo 11 = .ok (.ireturn, 1) := by decide +kernel
set_option maxRecDepth 20000 in
theorem ggX9_years_X9_isBlock : GoodIn wsX9_years wsX9_isBlock := goodIn_r _ [8] (by decide +kernel) (by decide +kernel)
set_option maxRecDepth 20000 in
theorem gX9_years_X9_isBlock : GoodIn wsX9_years (va_wsS RX9 286 yX9_isBlock wsX9_isBlock) := goodIn_app (goodIn_of _ (by decide +kernel)) ggX9_years_X9_isBlock
set_option maxRecDepth 20000 in
theorem ggX9_years_X4_read : GoodIn wsX9_years wsX4_read := goodIn_r _ [13, 14, 15, 16, 17, 18, 19, 20, 21, 22, 23, 24, 25, 26, 27, 28, 29, 30, 31, 32, 33, 34, 35, 36, 37, 38, 39, 40, 41, 42, 43, 44, 45, 46, 47, 48, 49, 50, 51, 52, 53, 130, 131, 132, 133, 134, 135, 136, 137, 138, 139, 140, 141, 142] (by decide +kernel) (by decide +kernel)
set_option maxRecDepth 20000 in
theorem gX9_years_X4_read : GoodIn wsX9_years (wsV RX9 255 RX4 yX4_read wsX4_read) := goodIn_app (goodIn_of _ (by decide +kernel)) ggX9_years_X4_read
set_option maxRecDepth 20000 in
theorem ggX9_years_X9_drawOn : GoodIn wsX9_years wsX9_drawOn := goodIn_r _ [56, 57] (by decide +kernel) (by decide +kernel)
set_option maxRecDepth 20000 in
theorem gX9_years_X9_drawOn : GoodIn wsX9_years (va_wsS RX9 336 yX9_drawOn wsX9_drawOn) := goodIn_app (goodIn_of _ (by decide +kernel)) ggX9_years_X9_drawOn
set_option maxRecDepth 20000 in
theorem ggX9_years_X9_drawn : GoodIn wsX9_years wsX9_drawn := goodIn_r _ [60] (by decide +kernel) (by decide +kernel)
set_option maxRecDepth 20000 in
theorem gX9_years_X9_drawn : GoodIn wsX9_years (va_wsS RX9 339 yX9_drawn wsX9_drawn) := goodIn_app (goodIn_of _ (by decide +kernel)) ggX9_years_X9_drawn
set_option maxRecDepth 20000 in
theorem ggX9_years_X4_exchange : GoodIn wsX9_years wsX4_exchange := goodIn_r _ [64, 17, 135, 136, 137, 138, 139, 140, 141, 142] (by decide +kernel) (by decide +kernel)
set_option maxRecDepth 20000 in
theorem gX9_years_X4_exchange : GoodIn wsX9_years (wsV RX9 296 RX4 yX4_exchange wsX4_exchange) := goodIn_app (goodIn_of _ (by decide +kernel)) ggX9_years_X4_exchange
set_option maxRecDepth 20000 in
theorem ggX9_years_X4_runsOfLine : GoodIn wsX9_years wsX4_runsOfLine := goodIn_r _ [68, 15, 16, 69, 70, 71, 12, 72, 18, 17, 135, 136, 137, 138, 139, 140, 141, 142] (by decide +kernel) (by decide +kernel)
set_option maxRecDepth 20000 in
theorem gX9_years_X4_runsOfLine : GoodIn wsX9_years (wsV RX9 258 RX4 yX4_runsOfLine wsX4_runsOfLine) := goodIn_app (goodIn_of _ (by decide +kernel)) ggX9_years_X4_runsOfLine
set_option maxRecDepth 20000 in
theorem ggX9_years_X4_tourBlocks : GoodIn wsX9_years wsX4_tourBlocks := goodIn_r _ [76, 15, 77, 78, 79, 80, 81, 82, 83, 84, 85, 86, 12, 87, 17, 88, 89, 90, 91, 92, 93, 66, 67, 68, 16, 69, 70, 71, 72, 18, 94, 95, 96, 97, 98, 99, 100, 101, 135, 136, 137, 138, 139, 140, 141, 142] (by decide +kernel) (by decide +kernel)
set_option maxRecDepth 20000 in
theorem gX9_years_X4_tourBlocks : GoodIn wsX9_years (wsV RX9 289 RX4 yX4_tourBlocks wsX4_tourBlocks) := goodIn_app (goodIn_of _ (by decide +kernel)) ggX9_years_X4_tourBlocks
set_option maxRecDepth 20000 in
theorem ggX9_years_X0_tell_ : GoodIn wsX9_years wsX0_tell_ := goodIn_r _ [106, 107, 108, 109, 105, 110, 111, 112, 113, 114, 115, 116, 117, 118, 119, 120, 143, 144] (by decide +kernel) (by decide +kernel)
set_option maxRecDepth 20000 in
theorem gX9_years_X0_tell_ : GoodIn wsX9_years (wsV RX9 212 RX0 yX0_tell_ wsX0_tell_) := goodIn_app (goodIn_of _ (by decide +kernel)) ggX9_years_X0_tell_
theorem dX9_years_0 : decode cX9_years 0 = .ok (.iload_n 2, 1) := by decide +kernel
theorem dX9_years_1 : decode cX9_years 1 = .ok (.iconst 1, 1) := by decide +kernel
theorem dX9_years_2 : decode cX9_years 2 = .ok (.if_icmp .lt 16, 3) := by decide +kernel
theorem dX9_years_5 : decode cX9_years 5 = .ok (.iload_n 2, 1) := by decide +kernel
theorem dX9_years_6 : decode cX9_years 6 = .ok (.bipush 20, 2) := by decide +kernel
theorem dX9_years_8 : decode cX9_years 8 = .ok (.if_icmp .gt 10, 3) := by decide +kernel
theorem dX9_years_11 : decode cX9_years 11 = .ok (.iload_n 3, 1) := by decide +kernel
theorem dX9_years_12 : decode cX9_years 12 = .ok (.invokestatic 286, 3) := by decide +kernel
theorem dX9_years_15 : decode cX9_years 15 = .ok (.ifCond .ne 5, 3) := by decide +kernel
theorem dX9_years_18 : decode cX9_years 18 = .ok (.iconst (-1), 1) := by decide +kernel
theorem dX9_years_19 : decode cX9_years 19 = .ok (.ireturn, 1) := by decide +kernel
theorem dX9_years_20 : decode cX9_years 20 = .ok (.aload_n 0, 1) := by decide +kernel
theorem dX9_years_21 : decode cX9_years 21 = .ok (.getfield 12, 3) := by decide +kernel
theorem dX9_years_24 : decode cX9_years 24 = .ok (.getfield 164, 3) := by decide +kernel
theorem dX9_years_27 : decode cX9_years 27 = .ok (.ifCond .ne 6, 3) := by decide +kernel
theorem dX9_years_30 : decode cX9_years 30 = .ok (.bipush (-2), 2) := by decide +kernel
theorem dX9_years_32 : decode cX9_years 32 = .ok (.ireturn, 1) := by decide +kernel
theorem dX9_years_33 : decode cX9_years 33 = .ok (.aload_n 0, 1) := by decide +kernel
theorem dX9_years_34 : decode cX9_years 34 = .ok (.getfield 62, 3) := by decide +kernel
theorem dX9_years_37 : decode cX9_years 37 = .ok (.aload_n 0, 1) := by decide +kernel
theorem dX9_years_38 : decode cX9_years 38 = .ok (.getfield 12, 3) := by decide +kernel
theorem dX9_years_41 : decode cX9_years 41 = .ok (.invokevirtual 255, 3) := by decide +kernel
theorem dX9_years_44 : decode cX9_years 44 = .ok (.iload_n 1, 1) := by decide +kernel
theorem dX9_years_45 : decode cX9_years 45 = .ok (.istore 4, 2) := by decide +kernel
theorem dX9_years_47 : decode cX9_years 47 = .ok (.iconst 0, 1) := by decide +kernel
theorem dX9_years_48 : decode cX9_years 48 = .ok (.istore 5, 2) := by decide +kernel
theorem dX9_years_50 : decode cX9_years 50 = .ok (.iload 5, 2) := by decide +kernel
theorem dX9_years_52 : decode cX9_years 52 = .ok (.iload_n 2, 1) := by decide +kernel
theorem dX9_years_53 : decode cX9_years 53 = .ok (.if_icmp .ge 58, 3) := by decide +kernel
theorem dX9_years_56 : decode cX9_years 56 = .ok (.iload 4, 2) := by decide +kernel
theorem dX9_years_58 : decode cX9_years 58 = .ok (.invokestatic 336, 3) := by decide +kernel
theorem dX9_years_61 : decode cX9_years 61 = .ok (.istore 4, 2) := by decide +kernel
theorem dX9_years_63 : decode cX9_years 63 = .ok (.iload 4, 2) := by decide +kernel
theorem dX9_years_65 : decode cX9_years 65 = .ok (.aload_n 0, 1) := by decide +kernel
theorem dX9_years_66 : decode cX9_years 66 = .ok (.getfield 12, 3) := by decide +kernel
theorem dX9_years_69 : decode cX9_years 69 = .ok (.getfield 164, 3) := by decide +kernel
theorem dX9_years_72 : decode cX9_years 72 = .ok (.invokestatic 339, 3) := by decide +kernel
theorem dX9_years_75 : decode cX9_years 75 = .ok (.istore 6, 2) := by decide +kernel
theorem dX9_years_77 : decode cX9_years 77 = .ok (.iload 4, 2) := by decide +kernel
theorem dX9_years_79 : decode cX9_years 79 = .ok (.invokestatic 336, 3) := by decide +kernel
theorem dX9_years_82 : decode cX9_years 82 = .ok (.istore 4, 2) := by decide +kernel
theorem dX9_years_84 : decode cX9_years 84 = .ok (.aload_n 0, 1) := by decide +kernel
theorem dX9_years_85 : decode cX9_years 85 = .ok (.getfield 62, 3) := by decide +kernel
theorem dX9_years_88 : decode cX9_years 88 = .ok (.iload 6, 2) := by decide +kernel
theorem dX9_years_90 : decode cX9_years 90 = .ok (.iload 4, 2) := by decide +kernel
theorem dX9_years_92 : decode cX9_years 92 = .ok (.aload_n 0, 1) := by decide +kernel
theorem dX9_years_93 : decode cX9_years 93 = .ok (.getfield 12, 3) := by decide +kernel
theorem dX9_years_96 : decode cX9_years 96 = .ok (.getfield 164, 3) := by decide +kernel
theorem dX9_years_99 : decode cX9_years 99 = .ok (.invokestatic 339, 3) := by decide +kernel
theorem dX9_years_102 : decode cX9_years 102 = .ok (.invokevirtual 296, 3) := by decide +kernel
theorem dX9_years_105 : decode cX9_years 105 = .ok (.iinc 5 1, 3) := by decide +kernel
theorem dX9_years_108 : decode cX9_years 108 = .ok (.goto (-58), 3) := by decide +kernel
theorem dX9_years_111 : decode cX9_years 111 = .ok (.aload_n 0, 1) := by decide +kernel
theorem dX9_years_112 : decode cX9_years 112 = .ok (.getfield 62, 3) := by decide +kernel
theorem dX9_years_115 : decode cX9_years 115 = .ok (.invokevirtual 258, 3) := by decide +kernel
theorem dX9_years_118 : decode cX9_years 118 = .ok (.istore 5, 2) := by decide +kernel
theorem dX9_years_120 : decode cX9_years 120 = .ok (.aload_n 0, 1) := by decide +kernel
theorem dX9_years_121 : decode cX9_years 121 = .ok (.getfield 41, 3) := by decide +kernel
theorem dX9_years_124 : decode cX9_years 124 = .ok (.iload 5, 2) := by decide +kernel
theorem dX9_years_126 : decode cX9_years 126 = .ok (.i2l, 1) := by decide +kernel
theorem dX9_years_127 : decode cX9_years 127 = .ok (.aload_n 0, 1) := by decide +kernel
theorem dX9_years_128 : decode cX9_years 128 = .ok (.getfield 62, 3) := by decide +kernel
theorem dX9_years_131 : decode cX9_years 131 = .ok (.iload_n 3, 1) := by decide +kernel
theorem dX9_years_132 : decode cX9_years 132 = .ok (.invokevirtual 289, 3) := by decide +kernel
theorem dX9_years_135 : decode cX9_years 135 = .ok (.i2l, 1) := by decide +kernel
theorem dX9_years_136 : decode cX9_years 136 = .ok (.invokevirtual 212, 3) := by decide +kernel
theorem dX9_years_139 : decode cX9_years 139 = .ok (.aload_n 0, 1) := by decide +kernel
theorem dX9_years_140 : decode cX9_years 140 = .ok (.getfield 62, 3) := by decide +kernel
theorem dX9_years_143 : decode cX9_years 143 = .ok (.invokevirtual 258, 3) := by decide +kernel
theorem dX9_years_146 : decode cX9_years 146 = .ok (.ireturn, 1) := by decide +kernel
theorem dX9_drawOn_0 : decode cX9_drawOn 0 = .ok (.iload_n 0, 1) := by decide +kernel
theorem dX9_drawOn_1 : decode cX9_drawOn 1 = .ok (.ldc_w 342, 3) := by decide +kernel
theorem dX9_drawOn_4 : decode cX9_drawOn 4 = .ok (.imul, 1) := by decide +kernel
theorem dX9_drawOn_5 : decode cX9_drawOn 5 = .ok (.sipush 12345, 3) := by decide +kernel
theorem dX9_drawOn_8 : decode cX9_drawOn 8 = .ok (.iadd, 1) := by decide +kernel
theorem dX9_drawOn_9 : decode cX9_drawOn 9 = .ok (.ireturn, 1) := by decide +kernel
theorem dX9_drawn_0 : decode cX9_drawn 0 = .ok (.iload_n 1, 1) := by decide +kernel
theorem dX9_drawn_1 : decode cX9_drawn 1 = .ok (.ifCond .le 12, 3) := by decide +kernel
theorem dX9_drawn_4 : decode cX9_drawn 4 = .ok (.iload_n 0, 1) := by decide +kernel
theorem dX9_drawn_5 : decode cX9_drawn 5 = .ok (.bipush 16, 2) := by decide +kernel
theorem dX9_drawn_7 : decode cX9_drawn 7 = .ok (.iushr, 1) := by decide +kernel
theorem dX9_drawn_8 : decode cX9_drawn 8 = .ok (.iload_n 1, 1) := by decide +kernel
theorem dX9_drawn_9 : decode cX9_drawn 9 = .ok (.irem, 1) := by decide +kernel
theorem dX9_drawn_10 : decode cX9_drawn 10 = .ok (.goto 4, 3) := by decide +kernel
theorem dX9_drawn_13 : decode cX9_drawn 13 = .ok (.iconst 0, 1) := by decide +kernel
theorem dX9_drawn_14 : decode cX9_drawn 14 = .ok (.ireturn, 1) := by decide +kernel
set_option maxRecDepth 20000 in
theorem ggX9_keep_X8_become : GoodIn wsX9_keep wsX8_become := goodIn_r _ [8, 9, 10, 11, 12, 13, 14, 15, 16, 17, 27, 28, 29, 30, 31] (by decide +kernel) (by decide +kernel)
set_option maxRecDepth 20000 in
theorem gX9_keep_X8_become : GoodIn wsX9_keep (wsV RX9 343 RX8 yX8_become wsX8_become) := goodIn_app (goodIn_of _ (by decide +kernel)) ggX9_keep_X8_become
theorem dX9_keep_0 : decode cX9_keep 0 = .ok (.iload_n 1, 1) := by decide +kernel
theorem dX9_keep_1 : decode cX9_keep 1 = .ok (.ifCond .lt 8, 3) := by decide +kernel
theorem dX9_keep_4 : decode cX9_keep 4 = .ok (.iload_n 1, 1) := by decide +kernel
theorem dX9_keep_5 : decode cX9_keep 5 = .ok (.iconst 2, 1) := by decide +kernel
theorem dX9_keep_6 : decode cX9_keep 6 = .ok (.if_icmp .lt 5, 3) := by decide +kernel
theorem dX9_keep_9 : decode cX9_keep 9 = .ok (.iconst 0, 1) := by decide +kernel
theorem dX9_keep_10 : decode cX9_keep 10 = .ok (.ireturn, 1) := by decide +kernel
theorem dX9_keep_11 : decode cX9_keep 11 = .ok (.aload_n 0, 1) := by decide +kernel
theorem dX9_keep_12 : decode cX9_keep 12 = .ok (.getfield 23, 3) := by decide +kernel
theorem dX9_keep_15 : decode cX9_keep 15 = .ok (.iload_n 1, 1) := by decide +kernel
theorem dX9_keep_16 : decode cX9_keep 16 = .ok (.aaload, 1) := by decide +kernel
theorem dX9_keep_17 : decode cX9_keep 17 = .ok (.aload_n 0, 1) := by decide +kernel
theorem dX9_keep_18 : decode cX9_keep 18 = .ok (.getfield 12, 3) := by decide +kernel
theorem dX9_keep_21 : decode cX9_keep 21 = .ok (.invokevirtual 343, 3) := by decide +kernel
theorem dX9_keep_24 : decode cX9_keep 24 = .ok (.aload_n 0, 1) := by decide +kernel
theorem dX9_keep_25 : decode cX9_keep 25 = .ok (.getfield 27, 3) := by decide +kernel
theorem dX9_keep_28 : decode cX9_keep 28 = .ok (.iload_n 1, 1) := by decide +kernel
theorem dX9_keep_29 : decode cX9_keep 29 = .ok (.iconst 1, 1) := by decide +kernel
theorem dX9_keep_30 : decode cX9_keep 30 = .ok (.bastore, 1) := by decide +kernel
theorem dX9_keep_31 : decode cX9_keep 31 = .ok (.iconst 1, 1) := by decide +kernel
theorem dX9_keep_32 : decode cX9_keep 32 = .ok (.ireturn, 1) := by decide +kernel
set_option maxRecDepth 20000 in
theorem ggX9_again_X8_become : GoodIn wsX9_again wsX8_become := goodIn_r _ [9, 10, 11, 12, 13, 14, 15, 16, 17, 18, 34, 35, 36, 37, 38] (by decide +kernel) (by decide +kernel)
set_option maxRecDepth 20000 in
theorem gX9_again_X8_become : GoodIn wsX9_again (wsV RX9 343 RX8 yX8_become wsX8_become) := goodIn_app (goodIn_of _ (by decide +kernel)) ggX9_again_X8_become
set_option maxRecDepth 20000 in
theorem ggX9_again_X5_forget : GoodIn wsX9_again wsX5_forget := goodIn_r _ [23, 24, 39, 40, 41] (by decide +kernel) (by decide +kernel)
set_option maxRecDepth 20000 in
theorem gX9_again_X5_forget : GoodIn wsX9_again (wsV RX9 346 RX5 yX5_forget wsX5_forget) := goodIn_app (goodIn_of _ (by decide +kernel)) ggX9_again_X5_forget
theorem dX9_again_0 : decode cX9_again 0 = .ok (.iload_n 1, 1) := by decide +kernel
theorem dX9_again_1 : decode cX9_again 1 = .ok (.ifCond .lt 17, 3) := by decide +kernel
theorem dX9_again_4 : decode cX9_again 4 = .ok (.iload_n 1, 1) := by decide +kernel
theorem dX9_again_5 : decode cX9_again 5 = .ok (.iconst 2, 1) := by decide +kernel
theorem dX9_again_6 : decode cX9_again 6 = .ok (.if_icmp .ge 12, 3) := by decide +kernel
theorem dX9_again_9 : decode cX9_again 9 = .ok (.aload_n 0, 1) := by decide +kernel
theorem dX9_again_10 : decode cX9_again 10 = .ok (.getfield 27, 3) := by decide +kernel
theorem dX9_again_13 : decode cX9_again 13 = .ok (.iload_n 1, 1) := by decide +kernel
theorem dX9_again_14 : decode cX9_again 14 = .ok (.baload, 1) := by decide +kernel
theorem dX9_again_15 : decode cX9_again 15 = .ok (.ifCond .ne 5, 3) := by decide +kernel
theorem dX9_again_18 : decode cX9_again 18 = .ok (.iconst 0, 1) := by decide +kernel
theorem dX9_again_19 : decode cX9_again 19 = .ok (.ireturn, 1) := by decide +kernel
theorem dX9_again_20 : decode cX9_again 20 = .ok (.aload_n 0, 1) := by decide +kernel
theorem dX9_again_21 : decode cX9_again 21 = .ok (.getfield 12, 3) := by decide +kernel
theorem dX9_again_24 : decode cX9_again 24 = .ok (.aload_n 0, 1) := by decide +kernel
theorem dX9_again_25 : decode cX9_again 25 = .ok (.getfield 23, 3) := by decide +kernel
theorem dX9_again_28 : decode cX9_again 28 = .ok (.iload_n 1, 1) := by decide +kernel
theorem dX9_again_29 : decode cX9_again 29 = .ok (.aaload, 1) := by decide +kernel
theorem dX9_again_30 : decode cX9_again 30 = .ok (.invokevirtual 343, 3) := by decide +kernel
theorem dX9_again_33 : decode cX9_again 33 = .ok (.aload_n 0, 1) := by decide +kernel
theorem dX9_again_34 : decode cX9_again 34 = .ok (.getfield 19, 3) := by decide +kernel
theorem dX9_again_37 : decode cX9_again 37 = .ok (.invokevirtual 346, 3) := by decide +kernel
theorem dX9_again_40 : decode cX9_again 40 = .ok (.iconst 1, 1) := by decide +kernel
theorem dX9_again_41 : decode cX9_again 41 = .ok (.ireturn, 1) := by decide +kernel
set_option maxRecDepth 20000 in
theorem ggX9_count_X8_properSet : GoodIn wsX9_count wsX8_properSet := goodIn_r _ [14, 15, 16, 17, 18, 13, 19, 20, 21, 22, 23, 24, 53, 54, 55, 56, 57] (by decide +kernel) (by decide +kernel)
set_option maxRecDepth 20000 in
theorem gX9_count_X8_properSet : GoodIn wsX9_count (wsV RX9 209 RX8 yX8_properSet wsX8_properSet) := goodIn_app (goodIn_of _ (by decide +kernel)) ggX9_count_X8_properSet
set_option maxRecDepth 20000 in
theorem ggX9_count_X8_cellsOfNothing : GoodIn wsX9_count wsX8_cellsOfNothing := goodIn_r _ [28, 15, 20, 29, 30, 31, 32, 33, 34, 35, 13, 36, 37, 38, 39, 40, 41, 42, 43, 53, 54, 55, 56, 57] (by decide +kernel) (by decide +kernel)
set_option maxRecDepth 20000 in
theorem gX9_count_X8_cellsOfNothing : GoodIn wsX9_count (wsV RX9 351 RX8 yX8_cellsOfNothing wsX8_cellsOfNothing) := goodIn_app (goodIn_of _ (by decide +kernel)) ggX9_count_X8_cellsOfNothing
theorem dX9_count_0 : decode cX9_count 0 = .ok (.iload_n 1, 1) := by decide +kernel
theorem dX9_count_1 : decode cX9_count 1 = .ok (.tableswitch 99 0 6 #[43, 51, 59, 67, 75, 83, 91], 43) := by decide +kernel
theorem dX9_count_44 : decode cX9_count 44 = .ok (.aload_n 0, 1) := by decide +kernel
theorem dX9_count_45 : decode cX9_count 45 = .ok (.getfield 12, 3) := by decide +kernel
theorem dX9_count_48 : decode cX9_count 48 = .ok (.getfield 95, 3) := by decide +kernel
theorem dX9_count_51 : decode cX9_count 51 = .ok (.ireturn, 1) := by decide +kernel
theorem dX9_count_52 : decode cX9_count 52 = .ok (.aload_n 0, 1) := by decide +kernel
theorem dX9_count_53 : decode cX9_count 53 = .ok (.getfield 12, 3) := by decide +kernel
theorem dX9_count_56 : decode cX9_count 56 = .ok (.getfield 164, 3) := by decide +kernel
theorem dX9_count_59 : decode cX9_count 59 = .ok (.ireturn, 1) := by decide +kernel
theorem dX9_count_60 : decode cX9_count 60 = .ok (.aload_n 0, 1) := by decide +kernel
theorem dX9_count_61 : decode cX9_count 61 = .ok (.getfield 12, 3) := by decide +kernel
theorem dX9_count_64 : decode cX9_count 64 = .ok (.invokevirtual 209, 3) := by decide +kernel
theorem dX9_count_67 : decode cX9_count 67 = .ok (.ireturn, 1) := by decide +kernel
theorem dX9_count_68 : decode cX9_count 68 = .ok (.aload_n 0, 1) := by decide +kernel
theorem dX9_count_69 : decode cX9_count 69 = .ok (.getfield 19, 3) := by decide +kernel
theorem dX9_count_72 : decode cX9_count 72 = .ok (.getfield 349, 3) := by decide +kernel
theorem dX9_count_75 : decode cX9_count 75 = .ok (.ireturn, 1) := by decide +kernel
theorem dX9_count_76 : decode cX9_count 76 = .ok (.aload_n 0, 1) := by decide +kernel
theorem dX9_count_77 : decode cX9_count 77 = .ok (.getfield 41, 3) := by decide +kernel
theorem dX9_count_80 : decode cX9_count 80 = .ok (.getfield 350, 3) := by decide +kernel
theorem dX9_count_83 : decode cX9_count 83 = .ok (.ireturn, 1) := by decide +kernel
theorem dX9_count_84 : decode cX9_count 84 = .ok (.aload_n 0, 1) := by decide +kernel
theorem dX9_count_85 : decode cX9_count 85 = .ok (.getfield 34, 3) := by decide +kernel
theorem dX9_count_88 : decode cX9_count 88 = .ok (.getfield 70, 3) := by decide +kernel
theorem dX9_count_91 : decode cX9_count 91 = .ok (.ireturn, 1) := by decide +kernel
theorem dX9_count_92 : decode cX9_count 92 = .ok (.aload_n 0, 1) := by decide +kernel
theorem dX9_count_93 : decode cX9_count 93 = .ok (.getfield 12, 3) := by decide +kernel
theorem dX9_count_96 : decode cX9_count 96 = .ok (.invokevirtual 351, 3) := by decide +kernel
theorem dX9_count_99 : decode cX9_count 99 = .ok (.ireturn, 1) := by decide +kernel
theorem dX9_count_100 : decode cX9_count 100 = .ok (.iconst (-1), 1) := by decide +kernel
theorem dX9_count_101 : decode cX9_count 101 = .ok (.ireturn, 1) := by decide +kernel
theorem dX9_answer_0 : decode cX9_answer 0 = .ok (.iload_n 1, 1) := by decide +kernel
theorem dX9_answer_1 : decode cX9_answer 1 = .ok (.ifCond .lt 14, 3) := by decide +kernel
theorem dX9_answer_4 : decode cX9_answer 4 = .ok (.iload_n 1, 1) := by decide +kernel
theorem dX9_answer_5 : decode cX9_answer 5 = .ok (.aload_n 0, 1) := by decide +kernel
theorem dX9_answer_6 : decode cX9_answer 6 = .ok (.getfield 41, 3) := by decide +kernel
theorem dX9_answer_9 : decode cX9_answer 9 = .ok (.getfield 350, 3) := by decide +kernel
theorem dX9_answer_12 : decode cX9_answer 12 = .ok (.if_icmp .lt 14, 3) := by decide +kernel
theorem dX9_answer_15 : decode cX9_answer 15 = .ok (.new 354, 3) := by decide +kernel
theorem dX9_answer_18 : decode cX9_answer 18 = .ok (.dup, 1) := by decide +kernel
theorem dX9_answer_19 : decode cX9_answer 19 = .ok (.ldc_w 356, 3) := by decide +kernel
theorem dX9_answer_22 : decode cX9_answer 22 = .ok (.invokespecial 358, 3) := by decide +kernel
theorem dX9_answer_25 : decode cX9_answer 25 = .ok (.athrow, 1) := by decide +kernel
theorem dX9_answer_26 : decode cX9_answer 26 = .ok (.aload_n 0, 1) := by decide +kernel
theorem dX9_answer_27 : decode cX9_answer 27 = .ok (.getfield 41, 3) := by decide +kernel
theorem dX9_answer_30 : decode cX9_answer 30 = .ok (.getfield 361, 3) := by decide +kernel
theorem dX9_answer_33 : decode cX9_answer 33 = .ok (.iload_n 1, 1) := by decide +kernel
theorem dX9_answer_34 : decode cX9_answer 34 = .ok (.laload, 1) := by decide +kernel
theorem dX9_answer_35 : decode cX9_answer 35 = .ok (.lreturn, 1) := by decide +kernel
