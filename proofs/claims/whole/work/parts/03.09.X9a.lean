set_option maxRecDepth 20000 in
theorem ggX9_init_X8_init : GoodIn wsX9_init wsX8_init := goodIn_r _ [36, 37, 2, 3, 38, 39, 40, 41, 42, 78, 79, 80, 81, 82] (by decide +kernel) (by decide +kernel)
set_option maxRecDepth 20000 in
theorem gX9_init_X8_init_n11 : GoodIn wsX9_init (wsX8_init) := ggX9_init_X8_init
set_option maxRecDepth 20000 in
theorem ggX9_init_X5_init : GoodIn wsX9_init wsX5_init := goodIn_r _ [45, 46, 2, 3, 47, 48, 5, 6, 35, 36, 37, 38, 39, 40, 41, 42, 92, 93, 94, 78, 79, 80, 81, 82] (by decide +kernel) (by decide +kernel)
set_option maxRecDepth 20000 in
theorem gX9_init_X5_init : GoodIn wsX9_init (wsX5_init) := ggX9_init_X5_init
set_option maxRecDepth 20000 in
theorem ggX9_init_X7_init : GoodIn wsX9_init wsX7_init := goodIn_r _ [50, 51, 2, 3, 52, 53, 95, 96] (by decide +kernel) (by decide +kernel)
set_option maxRecDepth 20000 in
theorem gX9_init_X7_init_n33 : GoodIn wsX9_init (wsX7_init) := ggX9_init_X7_init
set_option maxRecDepth 20000 in
theorem ggX9_init_X0_init : GoodIn wsX9_init wsX0_init := goodIn_r _ [55, 56, 2, 3, 41, 57, 97, 98] (by decide +kernel) (by decide +kernel)
set_option maxRecDepth 20000 in
theorem gX9_init_X0_init_n40 : GoodIn wsX9_init (wsX0_init) := ggX9_init_X0_init
set_option maxRecDepth 20000 in
theorem ggX9_init_X6_init : GoodIn wsX9_init wsX6_init := goodIn_r _ [59, 60, 2, 3, 38, 61, 62, 41, 63, 13, 64, 99, 100, 101, 102] (by decide +kernel) (by decide +kernel)
set_option maxRecDepth 20000 in
theorem gX9_init_X6_init_n47 : GoodIn wsX9_init (wsX6_init) := ggX9_init_X6_init
set_option maxRecDepth 20000 in
theorem ggX9_init_X2_init : GoodIn wsX9_init wsX2_init := goodIn_r _ [66, 67, 2, 3, 38, 68, 103, 104] (by decide +kernel) (by decide +kernel)
set_option maxRecDepth 20000 in
theorem gX9_init_X2_init_n54 : GoodIn wsX9_init (wsX2_init) := ggX9_init_X2_init
set_option maxRecDepth 20000 in
theorem ggX9_init_X4_init : GoodIn wsX9_init wsX4_init := goodIn_r _ [70, 71, 2, 3, 38, 72, 73, 74, 75, 41, 76, 77, 105, 106, 107, 108, 109, 110, 111, 112] (by decide +kernel) (by decide +kernel)
set_option maxRecDepth 20000 in
theorem gX9_init_X4_init_n61 : GoodIn wsX9_init (wsX4_init) := ggX9_init_X4_init
theorem dX9_init_0 : decode cX9_init 0 = .ok (.aload_n 0, 1) := by decide +kernel
theorem dX9_init_1 : decode cX9_init 1 = .ok (.invokespecial 3, 3) := by decide +kernel
theorem dX9_init_4 : decode cX9_init 4 = .ok (.aload_n 0, 1) := by decide +kernel
theorem dX9_init_5 : decode cX9_init 5 = .ok (.new 9, 3) := by decide +kernel
theorem dX9_init_8 : decode cX9_init 8 = .ok (.dup, 1) := by decide +kernel
theorem dX9_init_9 : decode cX9_init 9 = .ok (.invokespecial 11, 3) := by decide +kernel
theorem dX9_init_12 : decode cX9_init 12 = .ok (.putfield 12, 3) := by decide +kernel
theorem dX9_init_15 : decode cX9_init 15 = .ok (.aload_n 0, 1) := by decide +kernel
theorem dX9_init_16 : decode cX9_init 16 = .ok (.new 16, 3) := by decide +kernel
theorem dX9_init_19 : decode cX9_init 19 = .ok (.dup, 1) := by decide +kernel
theorem dX9_init_20 : decode cX9_init 20 = .ok (.invokespecial 18, 3) := by decide +kernel
theorem dX9_init_23 : decode cX9_init 23 = .ok (.putfield 19, 3) := by decide +kernel
theorem dX9_init_26 : decode cX9_init 26 = .ok (.aload_n 0, 1) := by decide +kernel
theorem dX9_init_27 : decode cX9_init 27 = .ok (.iconst 2, 1) := by decide +kernel
theorem dX9_init_28 : decode cX9_init 28 = .ok (.anewarray 9, 3) := by decide +kernel
theorem dX9_init_31 : decode cX9_init 31 = .ok (.putfield 23, 3) := by decide +kernel
theorem dX9_init_34 : decode cX9_init 34 = .ok (.aload_n 0, 1) := by decide +kernel
theorem dX9_init_35 : decode cX9_init 35 = .ok (.iconst 2, 1) := by decide +kernel
theorem dX9_init_36 : decode cX9_init 36 = .ok (.newarray .boolean, 2) := by decide +kernel
theorem dX9_init_38 : decode cX9_init 38 = .ok (.putfield 27, 3) := by decide +kernel
theorem dX9_init_41 : decode cX9_init 41 = .ok (.aload_n 0, 1) := by decide +kernel
theorem dX9_init_42 : decode cX9_init 42 = .ok (.new 31, 3) := by decide +kernel
theorem dX9_init_45 : decode cX9_init 45 = .ok (.dup, 1) := by decide +kernel
theorem dX9_init_46 : decode cX9_init 46 = .ok (.invokespecial 33, 3) := by decide +kernel
theorem dX9_init_49 : decode cX9_init 49 = .ok (.putfield 34, 3) := by decide +kernel
theorem dX9_init_52 : decode cX9_init 52 = .ok (.aload_n 0, 1) := by decide +kernel
theorem dX9_init_53 : decode cX9_init 53 = .ok (.new 38, 3) := by decide +kernel
theorem dX9_init_56 : decode cX9_init 56 = .ok (.dup, 1) := by decide +kernel
theorem dX9_init_57 : decode cX9_init 57 = .ok (.invokespecial 40, 3) := by decide +kernel
theorem dX9_init_60 : decode cX9_init 60 = .ok (.putfield 41, 3) := by decide +kernel
theorem dX9_init_63 : decode cX9_init 63 = .ok (.aload_n 0, 1) := by decide +kernel
theorem dX9_init_64 : decode cX9_init 64 = .ok (.new 45, 3) := by decide +kernel
theorem dX9_init_67 : decode cX9_init 67 = .ok (.dup, 1) := by decide +kernel
theorem dX9_init_68 : decode cX9_init 68 = .ok (.invokespecial 47, 3) := by decide +kernel
theorem dX9_init_71 : decode cX9_init 71 = .ok (.putfield 48, 3) := by decide +kernel
theorem dX9_init_74 : decode cX9_init 74 = .ok (.aload_n 0, 1) := by decide +kernel
theorem dX9_init_75 : decode cX9_init 75 = .ok (.new 52, 3) := by decide +kernel
theorem dX9_init_78 : decode cX9_init 78 = .ok (.dup, 1) := by decide +kernel
theorem dX9_init_79 : decode cX9_init 79 = .ok (.invokespecial 54, 3) := by decide +kernel
theorem dX9_init_82 : decode cX9_init 82 = .ok (.putfield 55, 3) := by decide +kernel
theorem dX9_init_85 : decode cX9_init 85 = .ok (.aload_n 0, 1) := by decide +kernel
theorem dX9_init_86 : decode cX9_init 86 = .ok (.new 59, 3) := by decide +kernel
theorem dX9_init_89 : decode cX9_init 89 = .ok (.dup, 1) := by decide +kernel
theorem dX9_init_90 : decode cX9_init 90 = .ok (.invokespecial 61, 3) := by decide +kernel
theorem dX9_init_93 : decode cX9_init 93 = .ok (.putfield 62, 3) := by decide +kernel
theorem dX9_init_96 : decode cX9_init 96 = .ok (.iconst 0, 1) := by decide +kernel
theorem dX9_init_97 : decode cX9_init 97 = .ok (.istore_n 1, 1) := by decide +kernel
theorem dX9_init_98 : decode cX9_init 98 = .ok (.iload_n 1, 1) := by decide +kernel
theorem dX9_init_99 : decode cX9_init 99 = .ok (.iconst 2, 1) := by decide +kernel
theorem dX9_init_100 : decode cX9_init 100 = .ok (.if_icmp .ge 22, 3) := by decide +kernel
theorem dX9_init_103 : decode cX9_init 103 = .ok (.aload_n 0, 1) := by decide +kernel
theorem dX9_init_104 : decode cX9_init 104 = .ok (.getfield 23, 3) := by decide +kernel
theorem dX9_init_107 : decode cX9_init 107 = .ok (.iload_n 1, 1) := by decide +kernel
theorem dX9_init_108 : decode cX9_init 108 = .ok (.new 9, 3) := by decide +kernel
theorem dX9_init_111 : decode cX9_init 111 = .ok (.dup, 1) := by decide +kernel
theorem dX9_init_112 : decode cX9_init 112 = .ok (.invokespecial 11, 3) := by decide +kernel
theorem dX9_init_115 : decode cX9_init 115 = .ok (.aastore, 1) := by decide +kernel
theorem dX9_init_116 : decode cX9_init 116 = .ok (.iinc 1 1, 3) := by decide +kernel
theorem dX9_init_119 : decode cX9_init 119 = .ok (.goto (-21), 3) := by decide +kernel
theorem dX9_init_122 : decode cX9_init 122 = .ok (.return_, 1) := by decide +kernel
set_option maxRecDepth 20000 in
theorem ggX9_sign_X7_addFour : GoodIn wsX9_sign wsX7_addFour := goodIn_r _ [7, 8, 9, 19, 20] (by decide +kernel) (by decide +kernel)
set_option maxRecDepth 20000 in
theorem gX9_sign_X7_addFour : GoodIn wsX9_sign (wsV RX9 66 RX7 yX7_addFour wsX7_addFour) := goodIn_app (goodIn_of _ (by decide +kernel)) ggX9_sign_X7_addFour
theorem dX9_sign_0 : decode cX9_sign 0 = .ok (.aload_n 0, 1) := by decide +kernel
theorem dX9_sign_1 : decode cX9_sign 1 = .ok (.getfield 34, 3) := by decide +kernel
theorem dX9_sign_4 : decode cX9_sign 4 = .ok (.iload_n 1, 1) := by decide +kernel
theorem dX9_sign_5 : decode cX9_sign 5 = .ok (.invokevirtual 66, 3) := by decide +kernel
theorem dX9_sign_8 : decode cX9_sign 8 = .ok (.ifCond .eq 13, 3) := by decide +kernel
theorem dX9_sign_11 : decode cX9_sign 11 = .ok (.aload_n 0, 1) := by decide +kernel
theorem dX9_sign_12 : decode cX9_sign 12 = .ok (.getfield 34, 3) := by decide +kernel
theorem dX9_sign_15 : decode cX9_sign 15 = .ok (.getfield 70, 3) := by decide +kernel
theorem dX9_sign_18 : decode cX9_sign 18 = .ok (.goto 4, 3) := by decide +kernel
theorem dX9_sign_21 : decode cX9_sign 21 = .ok (.iconst (-1), 1) := by decide +kernel
theorem dX9_sign_22 : decode cX9_sign 22 = .ok (.ireturn, 1) := by decide +kernel
set_option maxRecDepth 20000 in
theorem ggX9_end_X7_cut : GoodIn wsX9_end wsX7_cut := goodIn_r _ [6, 7, 17, 18] (by decide +kernel) (by decide +kernel)
set_option maxRecDepth 20000 in
theorem gX9_end_X7_cut : GoodIn wsX9_end (wsV RX9 74 RX7 yX7_cut wsX7_cut) := goodIn_app (goodIn_of _ (by decide +kernel)) ggX9_end_X7_cut
theorem dX9_end_0 : decode cX9_end 0 = .ok (.aload_n 0, 1) := by decide +kernel
theorem dX9_end_1 : decode cX9_end 1 = .ok (.getfield 34, 3) := by decide +kernel
theorem dX9_end_4 : decode cX9_end 4 = .ok (.iload_n 1, 1) := by decide +kernel
theorem dX9_end_5 : decode cX9_end 5 = .ok (.invokevirtual 74, 3) := by decide +kernel
theorem dX9_end_8 : decode cX9_end 8 = .ok (.ireturn, 1) := by decide +kernel
set_option maxRecDepth 20000 in
theorem ggX9_table_X9_wrongInTable : GoodIn wsX9_table wsX9_wrongInTable := goodIn_r _ [9, 3, 10, 11, 12, 13, 14, 15, 16, 17, 18, 19, 20, 21, 22, 23, 24, 25, 26, 27, 28, 29, 30, 31, 32, 33, 34, 35, 36, 37, 38, 39, 40, 41, 42, 43, 44, 45, 46, 47, 48, 49, 50, 51, 52, 53, 54, 55, 56, 57, 58, 59, 60, 61, 62, 63, 64, 65, 66, 67, 68, 69, 70, 71, 72, 73, 74, 75, 76, 77, 78, 79, 80, 81, 82, 83, 84, 85, 86, 87, 88, 89, 90, 91, 92, 93, 94, 95, 96, 97, 98, 99, 100, 101, 102, 103, 104, 105, 106, 107, 108, 109, 110, 111, 112, 113, 114, 115, 116, 117, 118, 119, 120, 164, 165, 166, 167, 168, 169, 170, 171, 172, 178, 179] (by decide +kernel) (by decide +kernel)
set_option maxRecDepth 20000 in
theorem gX9_table_X9_wrongInTable : GoodIn wsX9_table (wsV RX9 77 RX9 yX9_wrongInTable wsX9_wrongInTable) := goodIn_app (goodIn_of _ (by decide +kernel)) ggX9_table_X9_wrongInTable
set_option maxRecDepth 20000 in
theorem ggX9_table_X5_note : GoodIn wsX9_table wsX5_note := goodIn_r _ [125, 126, 127, 128, 129, 130, 131, 132, 133, 134, 135, 136, 137, 138, 139, 140, 141, 180, 181, 182, 173, 174, 175, 176, 177] (by decide +kernel) (by decide +kernel)
set_option maxRecDepth 20000 in
theorem gX9_table_X5_note : GoodIn wsX9_table (wsV RX9 81 RX5 yX5_note wsX5_note) := goodIn_app (goodIn_of _ (by decide +kernel)) ggX9_table_X5_note
set_option maxRecDepth 20000 in
theorem ggX9_table_X8_begin : GoodIn wsX9_table wsX8_begin := goodIn_r _ [145, 141, 146, 140, 133, 147, 139, 138, 148, 23, 24, 14, 25, 26, 12, 13, 15, 16, 17, 18, 19, 20, 21, 149, 150, 29, 30, 31, 32, 33, 34, 35, 36, 37, 38, 39, 40, 41, 42, 43, 44, 45, 46, 47, 48, 49, 50, 51, 52, 53, 54, 55, 56, 57, 58, 59, 60, 61, 62, 63, 64, 65, 66, 67, 68, 69, 70, 71, 72, 73, 74, 75, 76, 77, 78, 79, 80, 81, 82, 83, 84, 85, 86, 87, 88, 89, 90, 91, 92, 93, 94, 95, 96, 97, 98, 99, 100, 101, 102, 103, 104, 105, 106, 107, 108, 109, 110, 111, 112, 113, 114, 115, 116, 117, 118, 119, 120, 151, 152, 153, 173, 174, 175, 176, 177, 178, 179] (by decide +kernel) (by decide +kernel)
set_option maxRecDepth 20000 in
theorem gX9_table_X8_begin : GoodIn wsX9_table (wsV RX9 85 RX8 yX8_begin wsX8_begin) := goodIn_app (goodIn_of _ (by decide +kernel)) ggX9_table_X8_begin
set_option maxRecDepth 20000 in
theorem ggX9_table_X5_hold : GoodIn wsX9_table wsX5_hold := goodIn_r _ [157, 127, 158, 159, 65, 62, 66, 180, 181, 182] (by decide +kernel) (by decide +kernel)
set_option maxRecDepth 20000 in
theorem gX9_table_X5_hold : GoodIn wsX9_table (wsV RX9 89 RX5 yX5_hold wsX5_hold) := goodIn_app (goodIn_of _ (by decide +kernel)) ggX9_table_X5_hold
set_option maxRecDepth 20000 in
theorem ggX9_table_X7_clear : GoodIn wsX9_table wsX7_clear := goodIn_r _ [163, 20, 178, 179] (by decide +kernel) (by decide +kernel)
set_option maxRecDepth 20000 in
theorem gX9_table_X7_clear : GoodIn wsX9_table (wsV RX9 92 RX7 yX7_clear wsX7_clear) := goodIn_app (goodIn_of _ (by decide +kernel)) ggX9_table_X7_clear
theorem dX9_table_0 : decode cX9_table 0 = .ok (.aload_n 0, 1) := by decide +kernel
theorem dX9_table_1 : decode cX9_table 1 = .ok (.invokevirtual 77, 3) := by decide +kernel
theorem dX9_table_4 : decode cX9_table 4 = .ok (.istore_n 1, 1) := by decide +kernel
theorem dX9_table_5 : decode cX9_table 5 = .ok (.iload_n 1, 1) := by decide +kernel
theorem dX9_table_6 : decode cX9_table 6 = .ok (.iconst (-1), 1) := by decide +kernel
theorem dX9_table_7 : decode cX9_table 7 = .ok (.if_icmp .ne 32, 3) := by decide +kernel
theorem dX9_table_10 : decode cX9_table 10 = .ok (.aload_n 0, 1) := by decide +kernel
theorem dX9_table_11 : decode cX9_table 11 = .ok (.getfield 19, 3) := by decide +kernel
theorem dX9_table_14 : decode cX9_table 14 = .ok (.aload_n 0, 1) := by decide +kernel
theorem dX9_table_15 : decode cX9_table 15 = .ok (.getfield 12, 3) := by decide +kernel
theorem dX9_table_18 : decode cX9_table 18 = .ok (.invokevirtual 81, 3) := by decide +kernel
theorem dX9_table_21 : decode cX9_table 21 = .ok (.aload_n 0, 1) := by decide +kernel
theorem dX9_table_22 : decode cX9_table 22 = .ok (.getfield 12, 3) := by decide +kernel
theorem dX9_table_25 : decode cX9_table 25 = .ok (.aload_n 0, 1) := by decide +kernel
theorem dX9_table_26 : decode cX9_table 26 = .ok (.getfield 34, 3) := by decide +kernel
theorem dX9_table_29 : decode cX9_table 29 = .ok (.invokevirtual 85, 3) := by decide +kernel
theorem dX9_table_32 : decode cX9_table 32 = .ok (.aload_n 0, 1) := by decide +kernel
theorem dX9_table_33 : decode cX9_table 33 = .ok (.getfield 19, 3) := by decide +kernel
theorem dX9_table_36 : decode cX9_table 36 = .ok (.invokevirtual 89, 3) := by decide +kernel
theorem dX9_table_39 : decode cX9_table 39 = .ok (.aload_n 0, 1) := by decide +kernel
theorem dX9_table_40 : decode cX9_table 40 = .ok (.getfield 34, 3) := by decide +kernel
theorem dX9_table_43 : decode cX9_table 43 = .ok (.invokevirtual 92, 3) := by decide +kernel
theorem dX9_table_46 : decode cX9_table 46 = .ok (.iload_n 1, 1) := by decide +kernel
theorem dX9_table_47 : decode cX9_table 47 = .ok (.iconst (-1), 1) := by decide +kernel
theorem dX9_table_48 : decode cX9_table 48 = .ok (.if_icmp .ne 13, 3) := by decide +kernel
theorem dX9_table_51 : decode cX9_table 51 = .ok (.aload_n 0, 1) := by decide +kernel
theorem dX9_table_52 : decode cX9_table 52 = .ok (.getfield 12, 3) := by decide +kernel
theorem dX9_table_55 : decode cX9_table 55 = .ok (.getfield 95, 3) := by decide +kernel
theorem dX9_table_58 : decode cX9_table 58 = .ok (.goto 6, 3) := by decide +kernel
theorem dX9_table_61 : decode cX9_table 61 = .ok (.iconst (-1), 1) := by decide +kernel
theorem dX9_table_62 : decode cX9_table 62 = .ok (.iload_n 1, 1) := by decide +kernel
theorem dX9_table_63 : decode cX9_table 63 = .ok (.isub, 1) := by decide +kernel
theorem dX9_table_64 : decode cX9_table 64 = .ok (.ireturn, 1) := by decide +kernel
set_option maxRecDepth 20000 in
theorem ggX9_wrongInTable_X7_digitAt : GoodIn wsX9_wrongInTable wsX7_digitAt := goodIn_r _ [7, 8, 9, 10, 6, 11, 12, 13, 122, 123] (by decide +kernel) (by decide +kernel)
set_option maxRecDepth 20000 in
theorem gX9_wrongInTable_X7_digitAt : GoodIn wsX9_wrongInTable (wsV RX9 98 RX7 yX7_digitAt wsX7_digitAt) := goodIn_app (goodIn_of _ (by decide +kernel)) ggX9_wrongInTable_X7_digitAt
set_option maxRecDepth 20000 in
theorem ggX9_wrongInTable_X7_twoDigitsAt : GoodIn wsX9_wrongInTable wsX7_twoDigitsAt := goodIn_r _ [17, 18, 4, 5, 6, 7, 8, 9, 10, 11, 12, 13, 122, 123] (by decide +kernel) (by decide +kernel)
set_option maxRecDepth 20000 in
theorem gX9_wrongInTable_X7_twoDigitsAt : GoodIn wsX9_wrongInTable (wsV RX9 102 RX7 yX7_twoDigitsAt wsX7_twoDigitsAt) := goodIn_app (goodIn_of _ (by decide +kernel)) ggX9_wrongInTable_X7_twoDigitsAt
set_option maxRecDepth 20000 in
theorem ggX9_wrongInTable_X7_signAt : GoodIn wsX9_wrongInTable wsX7_signAt := goodIn_r _ [11, 12, 13, 122, 123] (by decide +kernel) (by decide +kernel)
set_option maxRecDepth 20000 in
theorem gX9_wrongInTable_X7_signAt : GoodIn wsX9_wrongInTable (wsV RX9 105 RX7 yX7_signAt wsX7_signAt) := goodIn_app (goodIn_of _ (by decide +kernel)) ggX9_wrongInTable_X7_signAt
set_option maxRecDepth 20000 in
theorem ggX9_wrongInTable_X3_ofLetter : GoodIn wsX9_wrongInTable wsX3_ofLetter := goodIn_r _ [23, 24, 25, 26, 27, 28, 29, 30, 31, 32, 33, 34, 35, 36, 37, 38, 39, 40, 41, 42, 43, 44, 45, 46, 47, 48, 49, 50, 51, 52, 53, 54, 55, 56, 57, 58, 59, 60, 61, 62, 63, 64, 65, 66, 67, 68, 69, 70, 71, 72, 73, 74, 75, 76, 77, 78, 79, 80, 81, 82, 83, 84, 85, 86, 87, 88, 89, 90, 91, 92, 93, 94, 95, 96, 97, 98, 99, 100, 101, 102, 103, 104, 105, 106, 107, 108, 109, 110, 111, 112] (by decide +kernel) (by decide +kernel)
set_option maxRecDepth 20000 in
theorem gX9_wrongInTable_X3_ofLetter : GoodIn wsX9_wrongInTable (va_wsS RX9 109 yX3_ofLetter wsX3_ofLetter) := goodIn_app (goodIn_of _ (by decide +kernel)) ggX9_wrongInTable_X3_ofLetter
theorem dX9_wrongInTable_0 : decode cX9_wrongInTable 0 = .ok (.aload_n 0, 1) := by decide +kernel
theorem dX9_wrongInTable_1 : decode cX9_wrongInTable 1 = .ok (.getfield 34, 3) := by decide +kernel
theorem dX9_wrongInTable_4 : decode cX9_wrongInTable 4 = .ok (.iconst 0, 1) := by decide +kernel
theorem dX9_wrongInTable_5 : decode cX9_wrongInTable 5 = .ok (.invokevirtual 98, 3) := by decide +kernel
theorem dX9_wrongInTable_8 : decode cX9_wrongInTable 8 = .ok (.ifCond .ge 5, 3) := by decide +kernel
theorem dX9_wrongInTable_11 : decode cX9_wrongInTable 11 = .ok (.iconst 0, 1) := by decide +kernel
theorem dX9_wrongInTable_12 : decode cX9_wrongInTable 12 = .ok (.ireturn, 1) := by decide +kernel
theorem dX9_wrongInTable_13 : decode cX9_wrongInTable 13 = .ok (.aload_n 0, 1) := by decide +kernel
theorem dX9_wrongInTable_14 : decode cX9_wrongInTable 14 = .ok (.getfield 34, 3) := by decide +kernel
theorem dX9_wrongInTable_17 : decode cX9_wrongInTable 17 = .ok (.iconst 1, 1) := by decide +kernel
theorem dX9_wrongInTable_18 : decode cX9_wrongInTable 18 = .ok (.invokevirtual 98, 3) := by decide +kernel
theorem dX9_wrongInTable_21 : decode cX9_wrongInTable 21 = .ok (.ifCond .lt 16, 3) := by decide +kernel
theorem dX9_wrongInTable_24 : decode cX9_wrongInTable 24 = .ok (.aload_n 0, 1) := by decide +kernel
theorem dX9_wrongInTable_25 : decode cX9_wrongInTable 25 = .ok (.getfield 34, 3) := by decide +kernel
theorem dX9_wrongInTable_28 : decode cX9_wrongInTable 28 = .ok (.iconst 0, 1) := by decide +kernel
theorem dX9_wrongInTable_29 : decode cX9_wrongInTable 29 = .ok (.invokevirtual 102, 3) := by decide +kernel
theorem dX9_wrongInTable_32 : decode cX9_wrongInTable 32 = .ok (.bipush 16, 2) := by decide +kernel
theorem dX9_wrongInTable_34 : decode cX9_wrongInTable 34 = .ok (.if_icmp .le 5, 3) := by decide +kernel
theorem dX9_wrongInTable_37 : decode cX9_wrongInTable 37 = .ok (.iconst 1, 1) := by decide +kernel
theorem dX9_wrongInTable_38 : decode cX9_wrongInTable 38 = .ok (.ireturn, 1) := by decide +kernel
theorem dX9_wrongInTable_39 : decode cX9_wrongInTable 39 = .ok (.iconst 2, 1) := by decide +kernel
theorem dX9_wrongInTable_40 : decode cX9_wrongInTable 40 = .ok (.istore_n 1, 1) := by decide +kernel
theorem dX9_wrongInTable_41 : decode cX9_wrongInTable 41 = .ok (.iload_n 1, 1) := by decide +kernel
theorem dX9_wrongInTable_42 : decode cX9_wrongInTable 42 = .ok (.aload_n 0, 1) := by decide +kernel
theorem dX9_wrongInTable_43 : decode cX9_wrongInTable 43 = .ok (.getfield 34, 3) := by decide +kernel
theorem dX9_wrongInTable_46 : decode cX9_wrongInTable 46 = .ok (.getfield 70, 3) := by decide +kernel
theorem dX9_wrongInTable_49 : decode cX9_wrongInTable 49 = .ok (.if_icmp .ge 31, 3) := by decide +kernel
theorem dX9_wrongInTable_52 : decode cX9_wrongInTable 52 = .ok (.iload_n 1, 1) := by decide +kernel
theorem dX9_wrongInTable_53 : decode cX9_wrongInTable 53 = .ok (.bipush 8, 2) := by decide +kernel
theorem dX9_wrongInTable_55 : decode cX9_wrongInTable 55 = .ok (.if_icmp .ge 17, 3) := by decide +kernel
theorem dX9_wrongInTable_58 : decode cX9_wrongInTable 58 = .ok (.aload_n 0, 1) := by decide +kernel
theorem dX9_wrongInTable_59 : decode cX9_wrongInTable 59 = .ok (.getfield 34, 3) := by decide +kernel
theorem dX9_wrongInTable_62 : decode cX9_wrongInTable 62 = .ok (.iload_n 1, 1) := by decide +kernel
theorem dX9_wrongInTable_63 : decode cX9_wrongInTable 63 = .ok (.invokevirtual 105, 3) := by decide +kernel
theorem dX9_wrongInTable_66 : decode cX9_wrongInTable 66 = .ok (.invokestatic 109, 3) := by decide +kernel
theorem dX9_wrongInTable_69 : decode cX9_wrongInTable 69 = .ok (.ifCond .ge 5, 3) := by decide +kernel
theorem dX9_wrongInTable_72 : decode cX9_wrongInTable 72 = .ok (.iload_n 1, 1) := by decide +kernel
theorem dX9_wrongInTable_73 : decode cX9_wrongInTable 73 = .ok (.ireturn, 1) := by decide +kernel
theorem dX9_wrongInTable_74 : decode cX9_wrongInTable 74 = .ok (.iinc 1 1, 3) := by decide +kernel
theorem dX9_wrongInTable_77 : decode cX9_wrongInTable 77 = .ok (.goto (-36), 3) := by decide +kernel
theorem dX9_wrongInTable_80 : decode cX9_wrongInTable 80 = .ok (.iconst (-1), 1) := by decide +kernel
theorem dX9_wrongInTable_81 : decode cX9_wrongInTable 81 = .ok (.ireturn, 1) := by decide +kernel
set_option maxRecDepth 20000 in
theorem ggX9_sheet_X8_hasColumn : GoodIn wsX9_sheet wsX8_hasColumn := goodIn_r _ [6, 7, 108, 109, 110, 111, 112] (by decide +kernel) (by decide +kernel)
set_option maxRecDepth 20000 in
theorem gX9_sheet_X8_hasColumn : GoodIn wsX9_sheet (wsV RX9 115 RX8 yX8_hasColumn wsX8_hasColumn) := goodIn_app (goodIn_of _ (by decide +kernel)) ggX9_sheet_X8_hasColumn
set_option maxRecDepth 20000 in
theorem ggX9_sheet_X3_puts : GoodIn wsX9_sheet wsX3_puts := goodIn_r _ [11, 12, 13, 10, 14] (by decide +kernel) (by decide +kernel)
set_option maxRecDepth 20000 in
theorem gX9_sheet_X3_puts : GoodIn wsX9_sheet (va_wsS RX9 118 yX3_puts wsX3_puts) := goodIn_app (goodIn_of _ (by decide +kernel)) ggX9_sheet_X3_puts
set_option maxRecDepth 20000 in
theorem ggX9_sheet_X9_entry : GoodIn wsX9_sheet wsX9_entry := goodIn_r _ [18] (by decide +kernel) (by decide +kernel)
set_option maxRecDepth 20000 in
theorem gX9_sheet_X9_entry : GoodIn wsX9_sheet (va_wsS RX9 121 yX9_entry wsX9_entry) := goodIn_app (goodIn_of _ (by decide +kernel)) ggX9_sheet_X9_entry
set_option maxRecDepth 20000 in
theorem ggX9_sheet_X9_putTold : GoodIn wsX9_sheet wsX9_putTold := goodIn_r _ [22, 1, 2, 3, 4, 5, 6, 7, 8, 9, 10, 11, 12, 13, 14, 23, 24, 25, 26, 27, 28, 29, 30, 31, 32, 33, 34, 35, 36, 37, 38, 39, 40, 41, 42, 43, 44, 45, 46, 47, 48, 49, 50, 51, 52, 53, 54, 55, 56, 57, 58, 59, 60, 61, 62, 63, 64, 65, 66, 67, 68, 69, 70, 71, 72, 73, 74, 75, 76, 77, 78, 79, 80, 81, 82, 83, 84, 85, 86, 87, 88, 89, 90, 91, 92, 93, 94, 95, 96, 97, 98, 99, 100, 101, 102, 103, 104, 105, 106, 107, 108, 109, 110, 111, 112] (by decide +kernel) (by decide +kernel)
set_option maxRecDepth 20000 in
theorem gX9_sheet_X9_putTold : GoodIn wsX9_sheet (wsV RX9 125 RX9 yX9_putTold wsX9_putTold) := goodIn_app (goodIn_of _ (by decide +kernel)) ggX9_sheet_X9_putTold
theorem dX9_sheet_0 : decode cX9_sheet 0 = .ok (.aload_n 0, 1) := by decide +kernel
theorem dX9_sheet_1 : decode cX9_sheet 1 = .ok (.getfield 12, 3) := by decide +kernel
theorem dX9_sheet_4 : decode cX9_sheet 4 = .ok (.iload_n 1, 1) := by decide +kernel
theorem dX9_sheet_5 : decode cX9_sheet 5 = .ok (.invokevirtual 115, 3) := by decide +kernel
theorem dX9_sheet_8 : decode cX9_sheet 8 = .ok (.ifCond .eq 26, 3) := by decide +kernel
theorem dX9_sheet_11 : decode cX9_sheet 11 = .ok (.iload_n 3, 1) := by decide +kernel
theorem dX9_sheet_12 : decode cX9_sheet 12 = .ok (.ifCond .lt 22, 3) := by decide +kernel
theorem dX9_sheet_15 : decode cX9_sheet 15 = .ok (.iload_n 3, 1) := by decide +kernel
theorem dX9_sheet_16 : decode cX9_sheet 16 = .ok (.iconst 3, 1) := by decide +kernel
theorem dX9_sheet_17 : decode cX9_sheet 17 = .ok (.if_icmp .gt 17, 3) := by decide +kernel
theorem dX9_sheet_20 : decode cX9_sheet 20 = .ok (.iload_n 2, 1) := by decide +kernel
theorem dX9_sheet_21 : decode cX9_sheet 21 = .ok (.invokestatic 118, 3) := by decide +kernel
theorem dX9_sheet_24 : decode cX9_sheet 24 = .ok (.ifCond .eq 10, 3) := by decide +kernel
theorem dX9_sheet_27 : decode cX9_sheet 27 = .ok (.iload 4, 2) := by decide +kernel
theorem dX9_sheet_29 : decode cX9_sheet 29 = .ok (.bipush 16, 2) := by decide +kernel
theorem dX9_sheet_31 : decode cX9_sheet 31 = .ok (.if_icmp .le 5, 3) := by decide +kernel
theorem dX9_sheet_34 : decode cX9_sheet 34 = .ok (.iconst (-1), 1) := by decide +kernel
theorem dX9_sheet_35 : decode cX9_sheet 35 = .ok (.ireturn, 1) := by decide +kernel
theorem dX9_sheet_36 : decode cX9_sheet 36 = .ok (.iload_n 3, 1) := by decide +kernel
theorem dX9_sheet_37 : decode cX9_sheet 37 = .ok (.iconst 3, 1) := by decide +kernel
theorem dX9_sheet_38 : decode cX9_sheet 38 = .ok (.if_icmp .ne 6, 3) := by decide +kernel
theorem dX9_sheet_41 : decode cX9_sheet 41 = .ok (.bipush (-3), 2) := by decide +kernel
theorem dX9_sheet_43 : decode cX9_sheet 43 = .ok (.ireturn, 1) := by decide +kernel
theorem dX9_sheet_44 : decode cX9_sheet 44 = .ok (.iload 4, 2) := by decide +kernel
theorem dX9_sheet_46 : decode cX9_sheet 46 = .ok (.ifCond .ge 6, 3) := by decide +kernel
theorem dX9_sheet_49 : decode cX9_sheet 49 = .ok (.bipush (-2), 2) := by decide +kernel
theorem dX9_sheet_51 : decode cX9_sheet 51 = .ok (.ireturn, 1) := by decide +kernel
theorem dX9_sheet_52 : decode cX9_sheet 52 = .ok (.iconst 0, 1) := by decide +kernel
theorem dX9_sheet_53 : decode cX9_sheet 53 = .ok (.istore 7, 2) := by decide +kernel
theorem dX9_sheet_55 : decode cX9_sheet 55 = .ok (.iconst 0, 1) := by decide +kernel
theorem dX9_sheet_56 : decode cX9_sheet 56 = .ok (.istore 8, 2) := by decide +kernel
theorem dX9_sheet_58 : decode cX9_sheet 58 = .ok (.iload 8, 2) := by decide +kernel
theorem dX9_sheet_60 : decode cX9_sheet 60 = .ok (.iload 4, 2) := by decide +kernel
theorem dX9_sheet_62 : decode cX9_sheet 62 = .ok (.if_icmp .ge 35, 3) := by decide +kernel
theorem dX9_sheet_65 : decode cX9_sheet 65 = .ok (.aload_n 0, 1) := by decide +kernel
theorem dX9_sheet_66 : decode cX9_sheet 66 = .ok (.iload_n 1, 1) := by decide +kernel
theorem dX9_sheet_67 : decode cX9_sheet 67 = .ok (.iload 8, 2) := by decide +kernel
theorem dX9_sheet_69 : decode cX9_sheet 69 = .ok (.iload_n 2, 1) := by decide +kernel
theorem dX9_sheet_70 : decode cX9_sheet 70 = .ok (.iload_n 3, 1) := by decide +kernel
theorem dX9_sheet_71 : decode cX9_sheet 71 = .ok (.iload 5, 2) := by decide +kernel
theorem dX9_sheet_73 : decode cX9_sheet 73 = .ok (.iload 8, 2) := by decide +kernel
theorem dX9_sheet_75 : decode cX9_sheet 75 = .ok (.iload 6, 2) := by decide +kernel
theorem dX9_sheet_77 : decode cX9_sheet 77 = .ok (.imul, 1) := by decide +kernel
theorem dX9_sheet_78 : decode cX9_sheet 78 = .ok (.iadd, 1) := by decide +kernel
theorem dX9_sheet_79 : decode cX9_sheet 79 = .ok (.invokestatic 121, 3) := by decide +kernel
theorem dX9_sheet_82 : decode cX9_sheet 82 = .ok (.invokevirtual 125, 3) := by decide +kernel
theorem dX9_sheet_85 : decode cX9_sheet 85 = .ok (.ifCond .ne 6, 3) := by decide +kernel
theorem dX9_sheet_88 : decode cX9_sheet 88 = .ok (.iinc 7 1, 3) := by decide +kernel
theorem dX9_sheet_91 : decode cX9_sheet 91 = .ok (.iinc 8 1, 3) := by decide +kernel
theorem dX9_sheet_94 : decode cX9_sheet 94 = .ok (.goto (-36), 3) := by decide +kernel
theorem dX9_sheet_97 : decode cX9_sheet 97 = .ok (.iload 7, 2) := by decide +kernel
theorem dX9_sheet_99 : decode cX9_sheet 99 = .ok (.ireturn, 1) := by decide +kernel
theorem dX9_entry_0 : decode cX9_entry 0 = .ok (.iload_n 0, 1) := by decide +kernel
theorem dX9_entry_1 : decode cX9_entry 1 = .ok (.ifCond .ne 6, 3) := by decide +kernel
theorem dX9_entry_4 : decode cX9_entry 4 = .ok (.iload_n 1, 1) := by decide +kernel
theorem dX9_entry_5 : decode cX9_entry 5 = .ok (.i2b, 1) := by decide +kernel
theorem dX9_entry_6 : decode cX9_entry 6 = .ok (.ireturn, 1) := by decide +kernel
theorem dX9_entry_7 : decode cX9_entry 7 = .ok (.iload_n 0, 1) := by decide +kernel
theorem dX9_entry_8 : decode cX9_entry 8 = .ok (.iconst 1, 1) := by decide +kernel
theorem dX9_entry_9 : decode cX9_entry 9 = .ok (.if_icmp .ne 8, 3) := by decide +kernel
theorem dX9_entry_12 : decode cX9_entry 12 = .ok (.iload_n 1, 1) := by decide +kernel
theorem dX9_entry_13 : decode cX9_entry 13 = .ok (.i2s, 1) := by decide +kernel
theorem dX9_entry_14 : decode cX9_entry 14 = .ok (.goto 4, 3) := by decide +kernel
theorem dX9_entry_17 : decode cX9_entry 17 = .ok (.iload_n 1, 1) := by decide +kernel
theorem dX9_entry_18 : decode cX9_entry 18 = .ok (.ireturn, 1) := by decide +kernel
set_option maxRecDepth 20000 in
theorem ggX9_put_X5_note : GoodIn wsX9_put wsX5_note := goodIn_r _ [7, 8, 9, 10, 11, 12, 13, 14, 15, 16, 17, 18, 19, 20, 21, 22, 23, 135, 136, 137, 138, 139, 140, 141, 142] (by decide +kernel) (by decide +kernel)
set_option maxRecDepth 20000 in
theorem gX9_put_X5_note : GoodIn wsX9_put (wsV RX9 81 RX5 yX5_note wsX5_note) := goodIn_app (goodIn_of _ (by decide +kernel)) ggX9_put_X5_note
set_option maxRecDepth 20000 in
theorem ggX9_put_X9_putTold : GoodIn wsX9_put wsX9_putTold := goodIn_r _ [28, 2, 29, 30, 31, 13, 32, 22, 33, 34, 35, 36, 37, 38, 39, 40, 41, 42, 43, 15, 44, 45, 46, 47, 48, 49, 50, 51, 52, 53, 54, 55, 56, 23, 57, 58, 59, 60, 61, 62, 63, 64, 65, 66, 67, 68, 69, 70, 71, 72, 73, 74, 75, 76, 77, 78, 79, 80, 81, 82, 83, 84, 85, 86, 87, 88, 89, 90, 91, 92, 93, 94, 95, 96, 97, 98, 99, 100, 101, 102, 21, 103, 104, 105, 106, 107, 108, 109, 110, 111, 112, 126, 127, 128, 129, 130, 131, 132, 133, 134, 138, 139, 140, 141, 142] (by decide +kernel) (by decide +kernel)
set_option maxRecDepth 20000 in
theorem gX9_put_X9_putTold : GoodIn wsX9_put (wsV RX9 125 RX9 yX9_putTold wsX9_putTold) := goodIn_app (goodIn_of _ (by decide +kernel)) ggX9_put_X9_putTold
set_option maxRecDepth 20000 in
theorem ggX9_put_X9_heldIfDone : GoodIn wsX9_put wsX9_heldIfDone := goodIn_r _ [116, 1, 117, 118, 119, 6, 120, 9, 121, 122, 123, 124, 125, 126, 127, 128, 129, 130, 131, 132, 133, 134, 135, 136, 137] (by decide +kernel) (by decide +kernel)
set_option maxRecDepth 20000 in
theorem gX9_put_X9_heldIfDone : GoodIn wsX9_put (wsV RX9 129 RX9 yX9_heldIfDone wsX9_heldIfDone) := goodIn_app (goodIn_of _ (by decide +kernel)) ggX9_put_X9_heldIfDone
theorem dX9_put_0 : decode cX9_put 0 = .ok (.aload_n 0, 1) := by decide +kernel
theorem dX9_put_1 : decode cX9_put 1 = .ok (.getfield 19, 3) := by decide +kernel
theorem dX9_put_4 : decode cX9_put 4 = .ok (.aload_n 0, 1) := by decide +kernel
theorem dX9_put_5 : decode cX9_put 5 = .ok (.getfield 12, 3) := by decide +kernel
theorem dX9_put_8 : decode cX9_put 8 = .ok (.invokevirtual 81, 3) := by decide +kernel
theorem dX9_put_11 : decode cX9_put 11 = .ok (.aload_n 0, 1) := by decide +kernel
theorem dX9_put_12 : decode cX9_put 12 = .ok (.aload_n 0, 1) := by decide +kernel
theorem dX9_put_13 : decode cX9_put 13 = .ok (.iload_n 1, 1) := by decide +kernel
theorem dX9_put_14 : decode cX9_put 14 = .ok (.iload_n 2, 1) := by decide +kernel
theorem dX9_put_15 : decode cX9_put 15 = .ok (.iload_n 3, 1) := by decide +kernel
theorem dX9_put_16 : decode cX9_put 16 = .ok (.iload 4, 2) := by decide +kernel
theorem dX9_put_18 : decode cX9_put 18 = .ok (.invokevirtual 125, 3) := by decide +kernel
theorem dX9_put_21 : decode cX9_put 21 = .ok (.invokevirtual 129, 3) := by decide +kernel
theorem dX9_put_24 : decode cX9_put 24 = .ok (.ireturn, 1) := by decide +kernel
set_option maxRecDepth 20000 in
theorem ggX9_heldIfDone_X5_hold : GoodIn wsX9_heldIfDone wsX5_hold := goodIn_r _ [6, 7, 8, 9, 10, 11, 12, 22, 23, 24] (by decide +kernel) (by decide +kernel)
set_option maxRecDepth 20000 in
theorem gX9_heldIfDone_X5_hold : GoodIn wsX9_heldIfDone (wsV RX9 89 RX5 yX5_hold wsX5_hold) := goodIn_app (goodIn_of _ (by decide +kernel)) ggX9_heldIfDone_X5_hold
theorem dX9_heldIfDone_0 : decode cX9_heldIfDone 0 = .ok (.iload_n 1, 1) := by decide +kernel
theorem dX9_heldIfDone_1 : decode cX9_heldIfDone 1 = .ok (.ifCond .lt 10, 3) := by decide +kernel
theorem dX9_heldIfDone_4 : decode cX9_heldIfDone 4 = .ok (.aload_n 0, 1) := by decide +kernel
theorem dX9_heldIfDone_5 : decode cX9_heldIfDone 5 = .ok (.getfield 19, 3) := by decide +kernel
theorem dX9_heldIfDone_8 : decode cX9_heldIfDone 8 = .ok (.invokevirtual 89, 3) := by decide +kernel
theorem dX9_heldIfDone_11 : decode cX9_heldIfDone 11 = .ok (.iload_n 1, 1) := by decide +kernel
theorem dX9_heldIfDone_12 : decode cX9_heldIfDone 12 = .ok (.ireturn, 1) := by decide +kernel
set_option maxRecDepth 20000 in
theorem ggX9_putTold_X8_hasColumn : GoodIn wsX9_putTold wsX8_hasColumn := goodIn_r _ [6, 7, 100, 101, 102, 103, 104] (by decide +kernel) (by decide +kernel)
set_option maxRecDepth 20000 in
theorem gX9_putTold_X8_hasColumn : GoodIn wsX9_putTold (wsV RX9 115 RX8 yX8_hasColumn wsX8_hasColumn) := goodIn_app (goodIn_of _ (by decide +kernel)) ggX9_putTold_X8_hasColumn
set_option maxRecDepth 20000 in
theorem ggX9_putTold_X3_puts : GoodIn wsX9_putTold wsX3_puts := goodIn_r _ [11, 12, 13, 10, 14] (by decide +kernel) (by decide +kernel)
set_option maxRecDepth 20000 in
theorem gX9_putTold_X3_puts : GoodIn wsX9_putTold (va_wsS RX9 118 yX3_puts wsX3_puts) := goodIn_app (goodIn_of _ (by decide +kernel)) ggX9_putTold_X3_puts
set_option maxRecDepth 20000 in
theorem ggX9_putTold_X8_whyNotPut : GoodIn wsX9_putTold wsX8_whyNotPut := goodIn_r _ [18, 19, 20, 21, 22, 5, 23, 24, 25, 26, 27, 28, 13, 10, 14, 29, 30, 31, 32, 33, 34, 35, 36, 37, 38, 39, 40, 41, 42, 43, 12, 100, 101, 102, 103, 104] (by decide +kernel) (by decide +kernel)
set_option maxRecDepth 20000 in
theorem gX9_putTold_X8_whyNotPut : GoodIn wsX9_putTold (wsV RX9 132 RX8 yX8_whyNotPut wsX8_whyNotPut) := goodIn_app (goodIn_of _ (by decide +kernel)) ggX9_putTold_X8_whyNotPut
set_option maxRecDepth 20000 in
theorem ggX9_putTold_X3_toldKind : GoodIn wsX9_putTold wsX3_toldKind := goodIn_r _ [36] (by decide +kernel) (by decide +kernel)
set_option maxRecDepth 20000 in
theorem gX9_putTold_X3_toldKind : GoodIn wsX9_putTold (va_wsS RX9 136 yX3_toldKind wsX3_toldKind) := goodIn_app (goodIn_of _ (by decide +kernel)) ggX9_putTold_X3_toldKind
set_option maxRecDepth 20000 in
theorem ggX9_putTold_X3_told : GoodIn wsX9_putTold wsX3_told := goodIn_r _ [47, 48, 49, 50, 51, 35, 10, 36, 52, 53, 54, 55, 56, 57, 58, 59, 60, 61, 62, 63, 64, 65, 66, 67, 68, 69, 70, 71, 72, 73, 74, 75] (by decide +kernel) (by decide +kernel)
set_option maxRecDepth 20000 in
theorem gX9_putTold_X3_told : GoodIn wsX9_putTold (va_wsS RX9 139 yX3_told wsX3_told) := goodIn_app (goodIn_of _ (by decide +kernel)) ggX9_putTold_X3_told
set_option maxRecDepth 20000 in
theorem ggX9_putTold_X8_store : GoodIn wsX9_putTold wsX8_store := goodIn_r _ [79, 80, 19, 81, 82, 10, 83, 84, 85, 54, 86, 87, 88, 89, 90, 72, 52, 53, 55, 56, 57, 58, 59, 60, 61, 62, 63, 64, 65, 66, 67, 68, 69, 70, 71, 100, 101, 102, 103, 104] (by decide +kernel) (by decide +kernel)
set_option maxRecDepth 20000 in
theorem gX9_putTold_X8_store : GoodIn wsX9_putTold (wsV RX9 143 RX8 yX8_store wsX8_store) := goodIn_app (goodIn_of _ (by decide +kernel)) ggX9_putTold_X8_store
theorem dX9_putTold_0 : decode cX9_putTold 0 = .ok (.aload_n 0, 1) := by decide +kernel
theorem dX9_putTold_1 : decode cX9_putTold 1 = .ok (.getfield 12, 3) := by decide +kernel
theorem dX9_putTold_4 : decode cX9_putTold 4 = .ok (.iload_n 1, 1) := by decide +kernel
theorem dX9_putTold_5 : decode cX9_putTold 5 = .ok (.invokevirtual 115, 3) := by decide +kernel
theorem dX9_putTold_8 : decode cX9_putTold 8 = .ok (.ifCond .eq 10, 3) := by decide +kernel
theorem dX9_putTold_11 : decode cX9_putTold 11 = .ok (.iload_n 3, 1) := by decide +kernel
theorem dX9_putTold_12 : decode cX9_putTold 12 = .ok (.invokestatic 118, 3) := by decide +kernel
theorem dX9_putTold_15 : decode cX9_putTold 15 = .ok (.ifCond .ne 5, 3) := by decide +kernel
theorem dX9_putTold_18 : decode cX9_putTold 18 = .ok (.iconst (-1), 1) := by decide +kernel
theorem dX9_putTold_19 : decode cX9_putTold 19 = .ok (.ireturn, 1) := by decide +kernel
theorem dX9_putTold_20 : decode cX9_putTold 20 = .ok (.aload_n 0, 1) := by decide +kernel
theorem dX9_putTold_21 : decode cX9_putTold 21 = .ok (.getfield 12, 3) := by decide +kernel
theorem dX9_putTold_24 : decode cX9_putTold 24 = .ok (.iload_n 1, 1) := by decide +kernel
theorem dX9_putTold_25 : decode cX9_putTold 25 = .ok (.iload_n 2, 1) := by decide +kernel
theorem dX9_putTold_26 : decode cX9_putTold 26 = .ok (.iload_n 3, 1) := by decide +kernel
theorem dX9_putTold_27 : decode cX9_putTold 27 = .ok (.invokevirtual 132, 3) := by decide +kernel
theorem dX9_putTold_30 : decode cX9_putTold 30 = .ok (.istore 5, 2) := by decide +kernel
theorem dX9_putTold_32 : decode cX9_putTold 32 = .ok (.iload 5, 2) := by decide +kernel
theorem dX9_putTold_34 : decode cX9_putTold 34 = .ok (.ifCond .ne 22, 3) := by decide +kernel
theorem dX9_putTold_37 : decode cX9_putTold 37 = .ok (.aload_n 0, 1) := by decide +kernel
theorem dX9_putTold_38 : decode cX9_putTold 38 = .ok (.getfield 12, 3) := by decide +kernel
theorem dX9_putTold_41 : decode cX9_putTold 41 = .ok (.iload_n 1, 1) := by decide +kernel
theorem dX9_putTold_42 : decode cX9_putTold 42 = .ok (.iload_n 2, 1) := by decide +kernel
theorem dX9_putTold_43 : decode cX9_putTold 43 = .ok (.iload_n 3, 1) := by decide +kernel
theorem dX9_putTold_44 : decode cX9_putTold 44 = .ok (.invokestatic 136, 3) := by decide +kernel
theorem dX9_putTold_47 : decode cX9_putTold 47 = .ok (.iload_n 3, 1) := by decide +kernel
theorem dX9_putTold_48 : decode cX9_putTold 48 = .ok (.iload 4, 2) := by decide +kernel
theorem dX9_putTold_50 : decode cX9_putTold 50 = .ok (.invokestatic 139, 3) := by decide +kernel
theorem dX9_putTold_53 : decode cX9_putTold 53 = .ok (.invokevirtual 143, 3) := by decide +kernel
theorem dX9_putTold_56 : decode cX9_putTold 56 = .ok (.iload 5, 2) := by decide +kernel
theorem dX9_putTold_58 : decode cX9_putTold 58 = .ok (.ineg, 1) := by decide +kernel
theorem dX9_putTold_59 : decode cX9_putTold 59 = .ok (.ireturn, 1) := by decide +kernel
set_option maxRecDepth 20000 in
theorem ggX9_take_X8_hasColumn : GoodIn wsX9_take wsX8_hasColumn := goodIn_r _ [7, 8, 103, 104, 105, 106, 107] (by decide +kernel) (by decide +kernel)
set_option maxRecDepth 20000 in
theorem gX9_take_X8_hasColumn : GoodIn wsX9_take (wsV RX9 115 RX8 yX8_hasColumn wsX8_hasColumn) := goodIn_app (goodIn_of _ (by decide +kernel)) ggX9_take_X8_hasColumn
set_option maxRecDepth 20000 in
theorem ggX9_take_X3_takes : GoodIn wsX9_take wsX3_takes := goodIn_r _ [12, 13, 14, 11, 15] (by decide +kernel) (by decide +kernel)
set_option maxRecDepth 20000 in
theorem gX9_take_X3_takes : GoodIn wsX9_take (va_wsS RX9 147 yX3_takes wsX3_takes) := goodIn_app (goodIn_of _ (by decide +kernel)) ggX9_take_X3_takes
set_option maxRecDepth 20000 in
theorem ggX9_take_X8_whyNotTaken : GoodIn wsX9_take wsX8_whyNotTaken := goodIn_r _ [19, 20, 21, 22, 23, 6, 24, 25, 26, 27, 28, 29, 14, 11, 15, 30, 31, 32, 33, 34, 35, 36, 37, 38, 13, 103, 104, 105, 106, 107] (by decide +kernel) (by decide +kernel)
set_option maxRecDepth 20000 in
theorem gX9_take_X8_whyNotTaken : GoodIn wsX9_take (wsV RX9 150 RX8 yX8_whyNotTaken wsX8_whyNotTaken) := goodIn_app (goodIn_of _ (by decide +kernel)) ggX9_take_X8_whyNotTaken
set_option maxRecDepth 20000 in
theorem ggX9_take_X8_taken : GoodIn wsX9_take wsX8_taken := goodIn_r _ [42, 20, 43, 44, 45, 6, 46, 47, 48, 49, 11, 50, 51, 52, 53, 54, 55, 56, 57, 58, 59, 60, 61, 62, 63, 64, 65, 66, 67, 68, 69, 70, 71, 72, 73, 74, 75, 76, 77, 78, 103, 104, 105, 106, 107] (by decide +kernel) (by decide +kernel)
set_option maxRecDepth 20000 in
theorem gX9_take_X8_taken : GoodIn wsX9_take (wsV RX9 153 RX8 yX8_taken wsX8_taken) := goodIn_app (goodIn_of _ (by decide +kernel)) ggX9_take_X8_taken
set_option maxRecDepth 20000 in
theorem ggX9_take_X0_tell : GoodIn wsX9_take wsX0_tell := goodIn_r _ [83, 84, 85, 86, 82, 87, 88, 89, 90, 91, 92, 93, 108, 109] (by decide +kernel) (by decide +kernel)
set_option maxRecDepth 20000 in
theorem gX9_take_X0_tell : GoodIn wsX9_take (wsV RX9 157 RX0 yX0_tell wsX0_tell) := goodIn_app (goodIn_of _ (by decide +kernel)) ggX9_take_X0_tell
theorem dX9_take_0 : decode cX9_take 0 = .ok (.aload_n 0, 1) := by decide +kernel
theorem dX9_take_1 : decode cX9_take 1 = .ok (.getfield 12, 3) := by decide +kernel
theorem dX9_take_4 : decode cX9_take 4 = .ok (.iload_n 1, 1) := by decide +kernel
theorem dX9_take_5 : decode cX9_take 5 = .ok (.invokevirtual 115, 3) := by decide +kernel
theorem dX9_take_8 : decode cX9_take 8 = .ok (.ifCond .eq 10, 3) := by decide +kernel
theorem dX9_take_11 : decode cX9_take 11 = .ok (.iload_n 3, 1) := by decide +kernel
theorem dX9_take_12 : decode cX9_take 12 = .ok (.invokestatic 147, 3) := by decide +kernel
theorem dX9_take_15 : decode cX9_take 15 = .ok (.ifCond .ne 5, 3) := by decide +kernel
theorem dX9_take_18 : decode cX9_take 18 = .ok (.iconst (-1), 1) := by decide +kernel
theorem dX9_take_19 : decode cX9_take 19 = .ok (.ireturn, 1) := by decide +kernel
theorem dX9_take_20 : decode cX9_take 20 = .ok (.aload_n 0, 1) := by decide +kernel
theorem dX9_take_21 : decode cX9_take 21 = .ok (.getfield 12, 3) := by decide +kernel
theorem dX9_take_24 : decode cX9_take 24 = .ok (.iload_n 1, 1) := by decide +kernel
theorem dX9_take_25 : decode cX9_take 25 = .ok (.iload_n 2, 1) := by decide +kernel
theorem dX9_take_26 : decode cX9_take 26 = .ok (.iload_n 3, 1) := by decide +kernel
theorem dX9_take_27 : decode cX9_take 27 = .ok (.invokevirtual 150, 3) := by decide +kernel
theorem dX9_take_30 : decode cX9_take 30 = .ok (.istore 4, 2) := by decide +kernel
theorem dX9_take_32 : decode cX9_take 32 = .ok (.iload 4, 2) := by decide +kernel
theorem dX9_take_34 : decode cX9_take 34 = .ok (.ifCond .ne 20, 3) := by decide +kernel
theorem dX9_take_37 : decode cX9_take 37 = .ok (.aload_n 0, 1) := by decide +kernel
theorem dX9_take_38 : decode cX9_take 38 = .ok (.getfield 41, 3) := by decide +kernel
theorem dX9_take_41 : decode cX9_take 41 = .ok (.aload_n 0, 1) := by decide +kernel
theorem dX9_take_42 : decode cX9_take 42 = .ok (.getfield 12, 3) := by decide +kernel
theorem dX9_take_45 : decode cX9_take 45 = .ok (.iload_n 1, 1) := by decide +kernel
theorem dX9_take_46 : decode cX9_take 46 = .ok (.iload_n 2, 1) := by decide +kernel
theorem dX9_take_47 : decode cX9_take 47 = .ok (.iload_n 3, 1) := by decide +kernel
theorem dX9_take_48 : decode cX9_take 48 = .ok (.invokevirtual 153, 3) := by decide +kernel
theorem dX9_take_51 : decode cX9_take 51 = .ok (.invokevirtual 157, 3) := by decide +kernel
theorem dX9_take_54 : decode cX9_take 54 = .ok (.iload 4, 2) := by decide +kernel
theorem dX9_take_56 : decode cX9_take 56 = .ok (.ineg, 1) := by decide +kernel
theorem dX9_take_57 : decode cX9_take 57 = .ok (.ireturn, 1) := by decide +kernel
set_option maxRecDepth 20000 in
theorem ggX9_length_X8_hasColumn : GoodIn wsX9_length wsX8_hasColumn := goodIn_r _ [7, 8, 23, 24, 25, 26, 27] (by decide +kernel) (by decide +kernel)
set_option maxRecDepth 20000 in
theorem gX9_length_X8_hasColumn : GoodIn wsX9_length (wsV RX9 115 RX8 yX8_hasColumn wsX8_hasColumn) := goodIn_app (goodIn_of _ (by decide +kernel)) ggX9_length_X8_hasColumn
set_option maxRecDepth 20000 in
theorem ggX9_length_X8_whyUnasked : GoodIn wsX9_length wsX8_whyUnasked := goodIn_r _ [12, 13, 23, 24, 25, 26, 27] (by decide +kernel) (by decide +kernel)
set_option maxRecDepth 20000 in
theorem gX9_length_X8_whyUnasked : GoodIn wsX9_length (wsV RX9 161 RX8 yX8_whyUnasked wsX8_whyUnasked) := goodIn_app (goodIn_of _ (by decide +kernel)) ggX9_length_X8_whyUnasked
theorem dX9_length_0 : decode cX9_length 0 = .ok (.aload_n 0, 1) := by decide +kernel
theorem dX9_length_1 : decode cX9_length 1 = .ok (.getfield 12, 3) := by decide +kernel
theorem dX9_length_4 : decode cX9_length 4 = .ok (.iload_n 1, 1) := by decide +kernel
theorem dX9_length_5 : decode cX9_length 5 = .ok (.invokevirtual 115, 3) := by decide +kernel
theorem dX9_length_8 : decode cX9_length 8 = .ok (.ifCond .ne 5, 3) := by decide +kernel
theorem dX9_length_11 : decode cX9_length 11 = .ok (.iconst (-1), 1) := by decide +kernel
theorem dX9_length_12 : decode cX9_length 12 = .ok (.ireturn, 1) := by decide +kernel
theorem dX9_length_13 : decode cX9_length 13 = .ok (.aload_n 0, 1) := by decide +kernel
theorem dX9_length_14 : decode cX9_length 14 = .ok (.getfield 12, 3) := by decide +kernel
theorem dX9_length_17 : decode cX9_length 17 = .ok (.iload_n 1, 1) := by decide +kernel
theorem dX9_length_18 : decode cX9_length 18 = .ok (.invokevirtual 161, 3) := by decide +kernel
theorem dX9_length_21 : decode cX9_length 21 = .ok (.istore_n 2, 1) := by decide +kernel
theorem dX9_length_22 : decode cX9_length 22 = .ok (.iload_n 2, 1) := by decide +kernel
theorem dX9_length_23 : decode cX9_length 23 = .ok (.ifCond .ne 13, 3) := by decide +kernel
theorem dX9_length_26 : decode cX9_length 26 = .ok (.aload_n 0, 1) := by decide +kernel
theorem dX9_length_27 : decode cX9_length 27 = .ok (.getfield 12, 3) := by decide +kernel
theorem dX9_length_30 : decode cX9_length 30 = .ok (.getfield 164, 3) := by decide +kernel
theorem dX9_length_33 : decode cX9_length 33 = .ok (.goto 5, 3) := by decide +kernel
theorem dX9_length_36 : decode cX9_length 36 = .ok (.iload_n 2, 1) := by decide +kernel
theorem dX9_length_37 : decode cX9_length 37 = .ok (.ineg, 1) := by decide +kernel
theorem dX9_length_38 : decode cX9_length 38 = .ok (.ireturn, 1) := by decide +kernel
set_option maxRecDepth 20000 in
theorem ggX9_kind_X8_hasColumn : GoodIn wsX9_kind wsX8_hasColumn := goodIn_r _ [7, 8, 18, 19, 20, 21, 22] (by decide +kernel) (by decide +kernel)
set_option maxRecDepth 20000 in
theorem gX9_kind_X8_hasColumn : GoodIn wsX9_kind (wsV RX9 115 RX8 yX8_hasColumn wsX8_hasColumn) := goodIn_app (goodIn_of _ (by decide +kernel)) ggX9_kind_X8_hasColumn
theorem dX9_kind_0 : decode cX9_kind 0 = .ok (.aload_n 0, 1) := by decide +kernel
theorem dX9_kind_1 : decode cX9_kind 1 = .ok (.getfield 12, 3) := by decide +kernel
theorem dX9_kind_4 : decode cX9_kind 4 = .ok (.iload_n 1, 1) := by decide +kernel
theorem dX9_kind_5 : decode cX9_kind 5 = .ok (.invokevirtual 115, 3) := by decide +kernel
theorem dX9_kind_8 : decode cX9_kind 8 = .ok (.ifCond .eq 15, 3) := by decide +kernel
theorem dX9_kind_11 : decode cX9_kind 11 = .ok (.aload_n 0, 1) := by decide +kernel
theorem dX9_kind_12 : decode cX9_kind 12 = .ok (.getfield 12, 3) := by decide +kernel
theorem dX9_kind_15 : decode cX9_kind 15 = .ok (.getfield 167, 3) := by decide +kernel
theorem dX9_kind_18 : decode cX9_kind 18 = .ok (.iload_n 1, 1) := by decide +kernel
theorem dX9_kind_19 : decode cX9_kind 19 = .ok (.iaload, 1) := by decide +kernel
theorem dX9_kind_20 : decode cX9_kind 20 = .ok (.goto 4, 3) := by decide +kernel
theorem dX9_kind_23 : decode cX9_kind 23 = .ok (.iconst (-1), 1) := by decide +kernel
theorem dX9_kind_24 : decode cX9_kind 24 = .ok (.ireturn, 1) := by decide +kernel
set_option maxRecDepth 20000 in
theorem ggX9_copies_X8_hasColumn : GoodIn wsX9_copies wsX8_hasColumn := goodIn_r _ [9, 10, 151, 152, 153, 154, 155] (by decide +kernel) (by decide +kernel)
set_option maxRecDepth 20000 in
theorem gX9_copies_X8_hasColumn : GoodIn wsX9_copies (wsV RX9 115 RX8 yX8_hasColumn wsX8_hasColumn) := goodIn_app (goodIn_of _ (by decide +kernel)) ggX9_copies_X8_hasColumn
set_option maxRecDepth 20000 in
theorem ggX9_copies_X8_whyUnaskedOfBoth : GoodIn wsX9_copies wsX8_whyUnaskedOfBoth := goodIn_r _ [14, 15, 16, 17, 8, 18, 19, 151, 152, 153, 154, 155] (by decide +kernel) (by decide +kernel)
set_option maxRecDepth 20000 in
theorem gX9_copies_X8_whyUnaskedOfBoth : GoodIn wsX9_copies (wsV RX9 171 RX8 yX8_whyUnaskedOfBoth wsX8_whyUnaskedOfBoth) := goodIn_app (goodIn_of _ (by decide +kernel)) ggX9_copies_X8_whyUnaskedOfBoth
set_option maxRecDepth 20000 in
theorem ggX9_copies_X5_note : GoodIn wsX9_copies wsX5_note := goodIn_r _ [24, 25, 26, 27, 28, 29, 8, 30, 19, 31, 32, 33, 34, 35, 36, 10, 37, 156, 157, 158, 151, 152, 153, 154, 155] (by decide +kernel) (by decide +kernel)
set_option maxRecDepth 20000 in
theorem gX9_copies_X5_note : GoodIn wsX9_copies (wsV RX9 81 RX5 yX5_note wsX5_note) := goodIn_app (goodIn_of _ (by decide +kernel)) ggX9_copies_X5_note
set_option maxRecDepth 20000 in
theorem ggX9_copies_X8_copyCell : GoodIn wsX9_copies wsX8_copyCell := goodIn_r _ [41, 19, 42, 43, 44, 8, 45, 36, 46, 47, 48, 49, 50, 51, 52, 53, 54, 55, 56, 57, 58, 15, 16, 17, 18, 59, 60, 61, 62, 63, 64, 65, 37, 66, 67, 68, 69, 70, 71, 72, 73, 74, 75, 76, 77, 78, 79, 80, 81, 82, 83, 84, 85, 86, 87, 88, 89, 90, 91, 92, 93, 94, 95, 96, 97, 98, 99, 100, 101, 102, 103, 104, 105, 106, 107, 108, 109, 110, 111, 151, 152, 153, 154, 155] (by decide +kernel) (by decide +kernel)
set_option maxRecDepth 20000 in
theorem gX9_copies_X8_copyCell : GoodIn wsX9_copies (wsV RX9 174 RX8 yX8_copyCell wsX8_copyCell) := goodIn_app (goodIn_of _ (by decide +kernel)) ggX9_copies_X8_copyCell
set_option maxRecDepth 20000 in
theorem ggX9_copies_X5_hold : GoodIn wsX9_copies wsX5_hold := goodIn_r _ [115, 26, 116, 117, 118, 119, 120, 156, 157, 158] (by decide +kernel) (by decide +kernel)
set_option maxRecDepth 20000 in
theorem gX9_copies_X5_hold : GoodIn wsX9_copies (wsV RX9 89 RX5 yX5_hold wsX5_hold) := goodIn_app (goodIn_of _ (by decide +kernel)) ggX9_copies_X5_hold
set_option maxRecDepth 20000 in
theorem ggX9_copies_X0_tell : GoodIn wsX9_copies wsX0_tell := goodIn_r _ [125, 126, 127, 128, 124, 129, 130, 131, 132, 133, 134, 135, 159, 160] (by decide +kernel) (by decide +kernel)
set_option maxRecDepth 20000 in
theorem gX9_copies_X0_tell : GoodIn wsX9_copies (wsV RX9 157 RX0 yX0_tell wsX0_tell) := goodIn_app (goodIn_of _ (by decide +kernel)) ggX9_copies_X0_tell
set_option maxRecDepth 20000 in
theorem ggX9_copies_J6_bitCount_0f7a4 : GoodIn wsX9_copies wsJ6_bitCount_0f7a4 := goodIn_r _ [138, 139, 140, 141] (by decide +kernel) (by decide +kernel)
set_option maxRecDepth 20000 in
theorem gX9_copies_J6_bitCount_0f7a4 : GoodIn wsX9_copies (va_wsS RX9 178 yJ6_bitCount_0f7a4 wsJ6_bitCount_0f7a4) := goodIn_app (goodIn_of _ (by decide +kernel)) ggX9_copies_J6_bitCount_0f7a4
theorem dX9_copies_0 : decode cX9_copies 0 = .ok (.aload_n 0, 1) := by decide +kernel
theorem dX9_copies_1 : decode cX9_copies 1 = .ok (.getfield 12, 3) := by decide +kernel
theorem dX9_copies_4 : decode cX9_copies 4 = .ok (.iload_n 1, 1) := by decide +kernel
theorem dX9_copies_5 : decode cX9_copies 5 = .ok (.invokevirtual 115, 3) := by decide +kernel
theorem dX9_copies_8 : decode cX9_copies 8 = .ok (.ifCond .eq 19, 3) := by decide +kernel
theorem dX9_copies_11 : decode cX9_copies 11 = .ok (.aload_n 0, 1) := by decide +kernel
theorem dX9_copies_12 : decode cX9_copies 12 = .ok (.getfield 12, 3) := by decide +kernel
theorem dX9_copies_15 : decode cX9_copies 15 = .ok (.iload_n 2, 1) := by decide +kernel
theorem dX9_copies_16 : decode cX9_copies 16 = .ok (.invokevirtual 115, 3) := by decide +kernel
theorem dX9_copies_19 : decode cX9_copies 19 = .ok (.ifCond .eq 8, 3) := by decide +kernel
theorem dX9_copies_22 : decode cX9_copies 22 = .ok (.iload_n 1, 1) := by decide +kernel
theorem dX9_copies_23 : decode cX9_copies 23 = .ok (.iload_n 2, 1) := by decide +kernel
theorem dX9_copies_24 : decode cX9_copies 24 = .ok (.if_icmp .ne 5, 3) := by decide +kernel
theorem dX9_copies_27 : decode cX9_copies 27 = .ok (.iconst (-1), 1) := by decide +kernel
theorem dX9_copies_28 : decode cX9_copies 28 = .ok (.ireturn, 1) := by decide +kernel
theorem dX9_copies_29 : decode cX9_copies 29 = .ok (.aload_n 0, 1) := by decide +kernel
theorem dX9_copies_30 : decode cX9_copies 30 = .ok (.getfield 12, 3) := by decide +kernel
theorem dX9_copies_33 : decode cX9_copies 33 = .ok (.iload_n 1, 1) := by decide +kernel
theorem dX9_copies_34 : decode cX9_copies 34 = .ok (.iload_n 2, 1) := by decide +kernel
theorem dX9_copies_35 : decode cX9_copies 35 = .ok (.invokevirtual 171, 3) := by decide +kernel
theorem dX9_copies_38 : decode cX9_copies 38 = .ok (.istore_n 3, 1) := by decide +kernel
theorem dX9_copies_39 : decode cX9_copies 39 = .ok (.iload_n 3, 1) := by decide +kernel
theorem dX9_copies_40 : decode cX9_copies 40 = .ok (.ifCond .eq 6, 3) := by decide +kernel
theorem dX9_copies_43 : decode cX9_copies 43 = .ok (.iload_n 3, 1) := by decide +kernel
theorem dX9_copies_44 : decode cX9_copies 44 = .ok (.ineg, 1) := by decide +kernel
theorem dX9_copies_45 : decode cX9_copies 45 = .ok (.ireturn, 1) := by decide +kernel
theorem dX9_copies_46 : decode cX9_copies 46 = .ok (.aload_n 0, 1) := by decide +kernel
theorem dX9_copies_47 : decode cX9_copies 47 = .ok (.getfield 19, 3) := by decide +kernel
theorem dX9_copies_50 : decode cX9_copies 50 = .ok (.aload_n 0, 1) := by decide +kernel
theorem dX9_copies_51 : decode cX9_copies 51 = .ok (.getfield 12, 3) := by decide +kernel
theorem dX9_copies_54 : decode cX9_copies 54 = .ok (.invokevirtual 81, 3) := by decide +kernel
theorem dX9_copies_57 : decode cX9_copies 57 = .ok (.iconst 0, 1) := by decide +kernel
theorem dX9_copies_58 : decode cX9_copies 58 = .ok (.istore 4, 2) := by decide +kernel
theorem dX9_copies_60 : decode cX9_copies 60 = .ok (.iconst 0, 1) := by decide +kernel
theorem dX9_copies_61 : decode cX9_copies 61 = .ok (.istore 5, 2) := by decide +kernel
theorem dX9_copies_63 : decode cX9_copies 63 = .ok (.iload 5, 2) := by decide +kernel
theorem dX9_copies_65 : decode cX9_copies 65 = .ok (.aload_n 0, 1) := by decide +kernel
theorem dX9_copies_66 : decode cX9_copies 66 = .ok (.getfield 12, 3) := by decide +kernel
theorem dX9_copies_69 : decode cX9_copies 69 = .ok (.getfield 164, 3) := by decide +kernel
theorem dX9_copies_72 : decode cX9_copies 72 = .ok (.if_icmp .ge 32, 3) := by decide +kernel
theorem dX9_copies_75 : decode cX9_copies 75 = .ok (.aload_n 0, 1) := by decide +kernel
theorem dX9_copies_76 : decode cX9_copies 76 = .ok (.getfield 12, 3) := by decide +kernel
theorem dX9_copies_79 : decode cX9_copies 79 = .ok (.iload_n 1, 1) := by decide +kernel
theorem dX9_copies_80 : decode cX9_copies 80 = .ok (.iload_n 2, 1) := by decide +kernel
theorem dX9_copies_81 : decode cX9_copies 81 = .ok (.iload 5, 2) := by decide +kernel
theorem dX9_copies_83 : decode cX9_copies 83 = .ok (.invokevirtual 174, 3) := by decide +kernel
theorem dX9_copies_86 : decode cX9_copies 86 = .ok (.ifCond .ne 12, 3) := by decide +kernel
theorem dX9_copies_89 : decode cX9_copies 89 = .ok (.iload 4, 2) := by decide +kernel
theorem dX9_copies_91 : decode cX9_copies 91 = .ok (.iconst 1, 1) := by decide +kernel
theorem dX9_copies_92 : decode cX9_copies 92 = .ok (.iload 5, 2) := by decide +kernel
theorem dX9_copies_94 : decode cX9_copies 94 = .ok (.ishl, 1) := by decide +kernel
theorem dX9_copies_95 : decode cX9_copies 95 = .ok (.ior, 1) := by decide +kernel
theorem dX9_copies_96 : decode cX9_copies 96 = .ok (.istore 4, 2) := by decide +kernel
theorem dX9_copies_98 : decode cX9_copies 98 = .ok (.iinc 5 1, 3) := by decide +kernel
theorem dX9_copies_101 : decode cX9_copies 101 = .ok (.goto (-38), 3) := by decide +kernel
theorem dX9_copies_104 : decode cX9_copies 104 = .ok (.aload_n 0, 1) := by decide +kernel
theorem dX9_copies_105 : decode cX9_copies 105 = .ok (.getfield 19, 3) := by decide +kernel
theorem dX9_copies_108 : decode cX9_copies 108 = .ok (.invokevirtual 89, 3) := by decide +kernel
theorem dX9_copies_111 : decode cX9_copies 111 = .ok (.aload_n 0, 1) := by decide +kernel
theorem dX9_copies_112 : decode cX9_copies 112 = .ok (.getfield 41, 3) := by decide +kernel
theorem dX9_copies_115 : decode cX9_copies 115 = .ok (.iload 4, 2) := by decide +kernel
theorem dX9_copies_117 : decode cX9_copies 117 = .ok (.i2l, 1) := by decide +kernel
theorem dX9_copies_118 : decode cX9_copies 118 = .ok (.invokevirtual 157, 3) := by decide +kernel
theorem dX9_copies_121 : decode cX9_copies 121 = .ok (.aload_n 0, 1) := by decide +kernel
theorem dX9_copies_122 : decode cX9_copies 122 = .ok (.getfield 12, 3) := by decide +kernel
theorem dX9_copies_125 : decode cX9_copies 125 = .ok (.getfield 164, 3) := by decide +kernel
theorem dX9_copies_128 : decode cX9_copies 128 = .ok (.iload 4, 2) := by decide +kernel
theorem dX9_copies_130 : decode cX9_copies 130 = .ok (.invokestatic 178, 3) := by decide +kernel
theorem dX9_copies_133 : decode cX9_copies 133 = .ok (.isub, 1) := by decide +kernel
theorem dX9_copies_134 : decode cX9_copies 134 = .ok (.ireturn, 1) := by decide +kernel
set_option maxRecDepth 20000 in
theorem ggX9_carries_X8_hasColumn : GoodIn wsX9_carries wsX8_hasColumn := goodIn_r _ [7, 8, 126, 127, 128, 129, 130] (by decide +kernel) (by decide +kernel)
set_option maxRecDepth 20000 in
theorem gX9_carries_X8_hasColumn : GoodIn wsX9_carries (wsV RX9 115 RX8 yX8_hasColumn wsX8_hasColumn) := goodIn_app (goodIn_of _ (by decide +kernel)) ggX9_carries_X8_hasColumn
set_option maxRecDepth 20000 in
theorem ggX9_carries_X3_isNumberWay : GoodIn wsX9_carries wsX3_isNumberWay := goodIn_r _ [12] (by decide +kernel) (by decide +kernel)
set_option maxRecDepth 20000 in
theorem gX9_carries_X3_isNumberWay : GoodIn wsX9_carries (va_wsS RX9 183 yX3_isNumberWay wsX3_isNumberWay) := goodIn_app (goodIn_of _ (by decide +kernel)) ggX9_carries_X3_isNumberWay
set_option maxRecDepth 20000 in
theorem ggX9_carries_X8_whyNotTaken : GoodIn wsX9_carries wsX8_whyNotTaken := goodIn_r _ [16, 17, 18, 19, 20, 6, 21, 22, 23, 24, 25, 26, 10, 11, 12, 27, 28, 29, 30, 31, 32, 33, 34, 35, 36, 126, 127, 128, 129, 130] (by decide +kernel) (by decide +kernel)
set_option maxRecDepth 20000 in
theorem gX9_carries_X8_whyNotTaken : GoodIn wsX9_carries (wsV RX9 150 RX8 yX8_whyNotTaken wsX8_whyNotTaken) := goodIn_app (goodIn_of _ (by decide +kernel)) ggX9_carries_X8_whyNotTaken
set_option maxRecDepth 20000 in
theorem ggX9_carries_X8_whyNotPut : GoodIn wsX9_carries wsX8_whyNotPut := goodIn_r _ [40, 17, 18, 19, 20, 6, 21, 22, 23, 24, 25, 26, 10, 11, 12, 27, 28, 29, 30, 31, 41, 42, 43, 44, 45, 46, 47, 33, 34, 35, 36, 126, 127, 128, 129, 130] (by decide +kernel) (by decide +kernel)
set_option maxRecDepth 20000 in
theorem gX9_carries_X8_whyNotPut : GoodIn wsX9_carries (wsV RX9 132 RX8 yX8_whyNotPut wsX8_whyNotPut) := goodIn_app (goodIn_of _ (by decide +kernel)) ggX9_carries_X8_whyNotPut
set_option maxRecDepth 20000 in
theorem ggX9_carries_X5_note : GoodIn wsX9_carries wsX5_note := goodIn_r _ [52, 53, 54, 55, 56, 57, 6, 58, 17, 59, 60, 61, 62, 63, 64, 8, 31, 131, 132, 133, 126, 127, 128, 129, 130] (by decide +kernel) (by decide +kernel)
set_option maxRecDepth 20000 in
theorem gX9_carries_X5_note : GoodIn wsX9_carries (wsV RX9 81 RX5 yX5_note wsX5_note) := goodIn_app (goodIn_of _ (by decide +kernel)) ggX9_carries_X5_note
set_option maxRecDepth 20000 in
theorem ggX9_carries_X8_taken : GoodIn wsX9_carries wsX8_taken := goodIn_r _ [68, 17, 69, 70, 71, 6, 72, 64, 73, 74, 11, 75, 76, 77, 78, 79, 80, 81, 82, 83, 84, 85, 86, 87, 88, 89, 90, 91, 92, 93, 94, 95, 96, 97, 98, 99, 100, 101, 102, 103, 126, 127, 128, 129, 130] (by decide +kernel) (by decide +kernel)
set_option maxRecDepth 20000 in
theorem gX9_carries_X8_taken : GoodIn wsX9_carries (wsV RX9 153 RX8 yX8_taken wsX8_taken) := goodIn_app (goodIn_of _ (by decide +kernel)) ggX9_carries_X8_taken
set_option maxRecDepth 20000 in
theorem ggX9_carries_X8_store : GoodIn wsX9_carries wsX8_store := goodIn_r _ [107, 64, 17, 73, 74, 11, 75, 76, 77, 78, 79, 80, 81, 82, 83, 84, 85, 86, 87, 88, 89, 90, 91, 92, 93, 94, 95, 96, 97, 98, 99, 100, 101, 102, 103, 126, 127, 128, 129, 130] (by decide +kernel) (by decide +kernel)
set_option maxRecDepth 20000 in
theorem gX9_carries_X8_store : GoodIn wsX9_carries (wsV RX9 143 RX8 yX8_store wsX8_store) := goodIn_app (goodIn_of _ (by decide +kernel)) ggX9_carries_X8_store
set_option maxRecDepth 20000 in
theorem ggX9_carries_X5_hold : GoodIn wsX9_carries wsX5_hold := goodIn_r _ [111, 54, 112, 113, 114, 115, 116, 131, 132, 133] (by decide +kernel) (by decide +kernel)
set_option maxRecDepth 20000 in
theorem gX9_carries_X5_hold : GoodIn wsX9_carries (wsV RX9 89 RX5 yX5_hold wsX5_hold) := goodIn_app (goodIn_of _ (by decide +kernel)) ggX9_carries_X5_hold
theorem dX9_carries_0 : decode cX9_carries 0 = .ok (.aload_n 0, 1) := by decide +kernel
theorem dX9_carries_1 : decode cX9_carries 1 = .ok (.getfield 12, 3) := by decide +kernel
theorem dX9_carries_4 : decode cX9_carries 4 = .ok (.iload_n 1, 1) := by decide +kernel
theorem dX9_carries_5 : decode cX9_carries 5 = .ok (.invokevirtual 115, 3) := by decide +kernel
theorem dX9_carries_8 : decode cX9_carries 8 = .ok (.ifCond .eq 22, 3) := by decide +kernel
theorem dX9_carries_11 : decode cX9_carries 11 = .ok (.aload_n 0, 1) := by decide +kernel
theorem dX9_carries_12 : decode cX9_carries 12 = .ok (.getfield 12, 3) := by decide +kernel
theorem dX9_carries_15 : decode cX9_carries 15 = .ok (.iload_n 3, 1) := by decide +kernel
theorem dX9_carries_16 : decode cX9_carries 16 = .ok (.invokevirtual 115, 3) := by decide +kernel
theorem dX9_carries_19 : decode cX9_carries 19 = .ok (.ifCond .eq 11, 3) := by decide +kernel
theorem dX9_carries_22 : decode cX9_carries 22 = .ok (.iload 5, 2) := by decide +kernel
theorem dX9_carries_24 : decode cX9_carries 24 = .ok (.invokestatic 183, 3) := by decide +kernel
theorem dX9_carries_27 : decode cX9_carries 27 = .ok (.ifCond .ne 5, 3) := by decide +kernel
theorem dX9_carries_30 : decode cX9_carries 30 = .ok (.iconst (-1), 1) := by decide +kernel
theorem dX9_carries_31 : decode cX9_carries 31 = .ok (.ireturn, 1) := by decide +kernel
theorem dX9_carries_32 : decode cX9_carries 32 = .ok (.aload_n 0, 1) := by decide +kernel
theorem dX9_carries_33 : decode cX9_carries 33 = .ok (.getfield 12, 3) := by decide +kernel
theorem dX9_carries_36 : decode cX9_carries 36 = .ok (.iload_n 1, 1) := by decide +kernel
theorem dX9_carries_37 : decode cX9_carries 37 = .ok (.iload_n 2, 1) := by decide +kernel
theorem dX9_carries_38 : decode cX9_carries 38 = .ok (.iload 5, 2) := by decide +kernel
theorem dX9_carries_40 : decode cX9_carries 40 = .ok (.invokevirtual 150, 3) := by decide +kernel
theorem dX9_carries_43 : decode cX9_carries 43 = .ok (.istore 6, 2) := by decide +kernel
theorem dX9_carries_45 : decode cX9_carries 45 = .ok (.iload 6, 2) := by decide +kernel
theorem dX9_carries_47 : decode cX9_carries 47 = .ok (.ifCond .eq 7, 3) := by decide +kernel
theorem dX9_carries_50 : decode cX9_carries 50 = .ok (.iload 6, 2) := by decide +kernel
theorem dX9_carries_52 : decode cX9_carries 52 = .ok (.ineg, 1) := by decide +kernel
theorem dX9_carries_53 : decode cX9_carries 53 = .ok (.ireturn, 1) := by decide +kernel
theorem dX9_carries_54 : decode cX9_carries 54 = .ok (.aload_n 0, 1) := by decide +kernel
theorem dX9_carries_55 : decode cX9_carries 55 = .ok (.getfield 12, 3) := by decide +kernel
theorem dX9_carries_58 : decode cX9_carries 58 = .ok (.iload_n 3, 1) := by decide +kernel
theorem dX9_carries_59 : decode cX9_carries 59 = .ok (.iload 4, 2) := by decide +kernel
theorem dX9_carries_61 : decode cX9_carries 61 = .ok (.iload 5, 2) := by decide +kernel
theorem dX9_carries_63 : decode cX9_carries 63 = .ok (.invokevirtual 132, 3) := by decide +kernel
theorem dX9_carries_66 : decode cX9_carries 66 = .ok (.istore 6, 2) := by decide +kernel
theorem dX9_carries_68 : decode cX9_carries 68 = .ok (.iload 6, 2) := by decide +kernel
theorem dX9_carries_70 : decode cX9_carries 70 = .ok (.ifCond .eq 9, 3) := by decide +kernel
theorem dX9_carries_73 : decode cX9_carries 73 = .ok (.bipush (-10), 2) := by decide +kernel
theorem dX9_carries_75 : decode cX9_carries 75 = .ok (.iload 6, 2) := by decide +kernel
theorem dX9_carries_77 : decode cX9_carries 77 = .ok (.isub, 1) := by decide +kernel
theorem dX9_carries_78 : decode cX9_carries 78 = .ok (.ireturn, 1) := by decide +kernel
theorem dX9_carries_79 : decode cX9_carries 79 = .ok (.aload_n 0, 1) := by decide +kernel
theorem dX9_carries_80 : decode cX9_carries 80 = .ok (.getfield 19, 3) := by decide +kernel
theorem dX9_carries_83 : decode cX9_carries 83 = .ok (.aload_n 0, 1) := by decide +kernel
theorem dX9_carries_84 : decode cX9_carries 84 = .ok (.getfield 12, 3) := by decide +kernel
theorem dX9_carries_87 : decode cX9_carries 87 = .ok (.invokevirtual 81, 3) := by decide +kernel
theorem dX9_carries_90 : decode cX9_carries 90 = .ok (.aload_n 0, 1) := by decide +kernel
theorem dX9_carries_91 : decode cX9_carries 91 = .ok (.getfield 12, 3) := by decide +kernel
theorem dX9_carries_94 : decode cX9_carries 94 = .ok (.iload_n 3, 1) := by decide +kernel
theorem dX9_carries_95 : decode cX9_carries 95 = .ok (.iload 4, 2) := by decide +kernel
theorem dX9_carries_97 : decode cX9_carries 97 = .ok (.iload 5, 2) := by decide +kernel
theorem dX9_carries_99 : decode cX9_carries 99 = .ok (.aload_n 0, 1) := by decide +kernel
theorem dX9_carries_100 : decode cX9_carries 100 = .ok (.getfield 12, 3) := by decide +kernel
theorem dX9_carries_103 : decode cX9_carries 103 = .ok (.iload_n 1, 1) := by decide +kernel
theorem dX9_carries_104 : decode cX9_carries 104 = .ok (.iload_n 2, 1) := by decide +kernel
theorem dX9_carries_105 : decode cX9_carries 105 = .ok (.iload 5, 2) := by decide +kernel
theorem dX9_carries_107 : decode cX9_carries 107 = .ok (.invokevirtual 153, 3) := by decide +kernel
theorem dX9_carries_110 : decode cX9_carries 110 = .ok (.invokevirtual 143, 3) := by decide +kernel
theorem dX9_carries_113 : decode cX9_carries 113 = .ok (.aload_n 0, 1) := by decide +kernel
theorem dX9_carries_114 : decode cX9_carries 114 = .ok (.getfield 19, 3) := by decide +kernel
theorem dX9_carries_117 : decode cX9_carries 117 = .ok (.invokevirtual 89, 3) := by decide +kernel
theorem dX9_carries_120 : decode cX9_carries 120 = .ok (.iconst 0, 1) := by decide +kernel
theorem dX9_carries_121 : decode cX9_carries 121 = .ok (.ireturn, 1) := by decide +kernel
set_option maxRecDepth 20000 in
theorem ggX9_ways_X8_hasColumn : GoodIn wsX9_ways wsX8_hasColumn := goodIn_r _ [7, 8, 71, 72, 73, 74, 75] (by decide +kernel) (by decide +kernel)
set_option maxRecDepth 20000 in
theorem gX9_ways_X8_hasColumn : GoodIn wsX9_ways (wsV RX9 115 RX8 yX8_hasColumn wsX8_hasColumn) := goodIn_app (goodIn_of _ (by decide +kernel)) ggX9_ways_X8_hasColumn
set_option maxRecDepth 20000 in
theorem ggX9_ways_X8_whyNotTaken : GoodIn wsX9_ways wsX8_whyNotTaken := goodIn_r _ [12, 13, 14, 15, 16, 6, 17, 18, 19, 20, 21, 22, 23, 24, 25, 26, 27, 28, 29, 30, 31, 32, 33, 34, 35, 71, 72, 73, 74, 75] (by decide +kernel) (by decide +kernel)
set_option maxRecDepth 20000 in
theorem gX9_ways_X8_whyNotTaken : GoodIn wsX9_ways (wsV RX9 150 RX8 yX8_whyNotTaken wsX8_whyNotTaken) := goodIn_app (goodIn_of _ (by decide +kernel)) ggX9_ways_X8_whyNotTaken
set_option maxRecDepth 20000 in
theorem ggX9_ways_X8_whyNotPut : GoodIn wsX9_ways wsX8_whyNotPut := goodIn_r _ [39, 13, 14, 15, 16, 6, 17, 18, 19, 20, 21, 22, 23, 24, 25, 26, 27, 28, 29, 30, 40, 41, 42, 43, 44, 45, 46, 32, 33, 34, 35, 71, 72, 73, 74, 75] (by decide +kernel) (by decide +kernel)
set_option maxRecDepth 20000 in
theorem gX9_ways_X8_whyNotPut : GoodIn wsX9_ways (wsV RX9 132 RX8 yX8_whyNotPut wsX8_whyNotPut) := goodIn_app (goodIn_of _ (by decide +kernel)) ggX9_ways_X8_whyNotPut
set_option maxRecDepth 20000 in
theorem ggX9_ways_X0_tell : GoodIn wsX9_ways wsX0_tell := goodIn_r _ [51, 52, 53, 54, 50, 55, 56, 57, 58, 59, 60, 61, 76, 77] (by decide +kernel) (by decide +kernel)
set_option maxRecDepth 20000 in
theorem gX9_ways_X0_tell : GoodIn wsX9_ways (wsV RX9 157 RX0 yX0_tell wsX0_tell) := goodIn_app (goodIn_of _ (by decide +kernel)) ggX9_ways_X0_tell
theorem dX9_ways_0 : decode cX9_ways 0 = .ok (.aload_n 0, 1) := by decide +kernel
theorem dX9_ways_1 : decode cX9_ways 1 = .ok (.getfield 12, 3) := by decide +kernel
theorem dX9_ways_4 : decode cX9_ways 4 = .ok (.iload_n 1, 1) := by decide +kernel
theorem dX9_ways_5 : decode cX9_ways 5 = .ok (.invokevirtual 115, 3) := by decide +kernel
theorem dX9_ways_8 : decode cX9_ways 8 = .ok (.ifCond .ne 5, 3) := by decide +kernel
theorem dX9_ways_11 : decode cX9_ways 11 = .ok (.iconst (-1), 1) := by decide +kernel
theorem dX9_ways_12 : decode cX9_ways 12 = .ok (.ireturn, 1) := by decide +kernel
theorem dX9_ways_13 : decode cX9_ways 13 = .ok (.iconst 0, 1) := by decide +kernel
theorem dX9_ways_14 : decode cX9_ways 14 = .ok (.istore_n 2, 1) := by decide +kernel
theorem dX9_ways_15 : decode cX9_ways 15 = .ok (.iconst 0, 1) := by decide +kernel
theorem dX9_ways_16 : decode cX9_ways 16 = .ok (.istore_n 3, 1) := by decide +kernel
theorem dX9_ways_17 : decode cX9_ways 17 = .ok (.iconst 0, 1) := by decide +kernel
theorem dX9_ways_18 : decode cX9_ways 18 = .ok (.istore 4, 2) := by decide +kernel
theorem dX9_ways_20 : decode cX9_ways 20 = .ok (.iload 4, 2) := by decide +kernel
theorem dX9_ways_22 : decode cX9_ways 22 = .ok (.bipush 7, 2) := by decide +kernel
theorem dX9_ways_24 : decode cX9_ways 24 = .ok (.if_icmp .gt 51, 3) := by decide +kernel
theorem dX9_ways_27 : decode cX9_ways 27 = .ok (.aload_n 0, 1) := by decide +kernel
theorem dX9_ways_28 : decode cX9_ways 28 = .ok (.getfield 12, 3) := by decide +kernel
theorem dX9_ways_31 : decode cX9_ways 31 = .ok (.iload_n 1, 1) := by decide +kernel
theorem dX9_ways_32 : decode cX9_ways 32 = .ok (.iconst 0, 1) := by decide +kernel
theorem dX9_ways_33 : decode cX9_ways 33 = .ok (.iload 4, 2) := by decide +kernel
theorem dX9_ways_35 : decode cX9_ways 35 = .ok (.invokevirtual 150, 3) := by decide +kernel
theorem dX9_ways_38 : decode cX9_ways 38 = .ok (.ifCond .ne 10, 3) := by decide +kernel
theorem dX9_ways_41 : decode cX9_ways 41 = .ok (.iload_n 2, 1) := by decide +kernel
theorem dX9_ways_42 : decode cX9_ways 42 = .ok (.iconst 1, 1) := by decide +kernel
theorem dX9_ways_43 : decode cX9_ways 43 = .ok (.iload 4, 2) := by decide +kernel
theorem dX9_ways_45 : decode cX9_ways 45 = .ok (.ishl, 1) := by decide +kernel
theorem dX9_ways_46 : decode cX9_ways 46 = .ok (.ior, 1) := by decide +kernel
theorem dX9_ways_47 : decode cX9_ways 47 = .ok (.istore_n 2, 1) := by decide +kernel
theorem dX9_ways_48 : decode cX9_ways 48 = .ok (.aload_n 0, 1) := by decide +kernel
theorem dX9_ways_49 : decode cX9_ways 49 = .ok (.getfield 12, 3) := by decide +kernel
theorem dX9_ways_52 : decode cX9_ways 52 = .ok (.iload_n 1, 1) := by decide +kernel
theorem dX9_ways_53 : decode cX9_ways 53 = .ok (.iconst 0, 1) := by decide +kernel
theorem dX9_ways_54 : decode cX9_ways 54 = .ok (.iload 4, 2) := by decide +kernel
theorem dX9_ways_56 : decode cX9_ways 56 = .ok (.invokevirtual 132, 3) := by decide +kernel
theorem dX9_ways_59 : decode cX9_ways 59 = .ok (.ifCond .ne 10, 3) := by decide +kernel
theorem dX9_ways_62 : decode cX9_ways 62 = .ok (.iload_n 3, 1) := by decide +kernel
theorem dX9_ways_63 : decode cX9_ways 63 = .ok (.iconst 1, 1) := by decide +kernel
theorem dX9_ways_64 : decode cX9_ways 64 = .ok (.iload 4, 2) := by decide +kernel
theorem dX9_ways_66 : decode cX9_ways 66 = .ok (.ishl, 1) := by decide +kernel
theorem dX9_ways_67 : decode cX9_ways 67 = .ok (.ior, 1) := by decide +kernel
theorem dX9_ways_68 : decode cX9_ways 68 = .ok (.istore_n 3, 1) := by decide +kernel
theorem dX9_ways_69 : decode cX9_ways 69 = .ok (.iinc 4 1, 3) := by decide +kernel
theorem dX9_ways_72 : decode cX9_ways 72 = .ok (.goto (-52), 3) := by decide +kernel
theorem dX9_ways_75 : decode cX9_ways 75 = .ok (.aload_n 0, 1) := by decide +kernel
theorem dX9_ways_76 : decode cX9_ways 76 = .ok (.getfield 41, 3) := by decide +kernel
theorem dX9_ways_79 : decode cX9_ways 79 = .ok (.iload_n 3, 1) := by decide +kernel
theorem dX9_ways_80 : decode cX9_ways 80 = .ok (.i2l, 1) := by decide +kernel
theorem dX9_ways_81 : decode cX9_ways 81 = .ok (.invokevirtual 157, 3) := by decide +kernel
theorem dX9_ways_84 : decode cX9_ways 84 = .ok (.iload_n 2, 1) := by decide +kernel
theorem dX9_ways_85 : decode cX9_ways 85 = .ok (.ireturn, 1) := by decide +kernel
set_option maxRecDepth 20000 in
theorem ggX9_same_X8_hasColumn : GoodIn wsX9_same wsX8_hasColumn := goodIn_r _ [8, 9, 94, 95, 96, 97, 98] (by decide +kernel) (by decide +kernel)
set_option maxRecDepth 20000 in
theorem gX9_same_X8_hasColumn : GoodIn wsX9_same (wsV RX9 115 RX8 yX8_hasColumn wsX8_hasColumn) := goodIn_app (goodIn_of _ (by decide +kernel)) ggX9_same_X8_hasColumn
set_option maxRecDepth 20000 in
theorem ggX9_same_X8_whyUnaskedOfBoth : GoodIn wsX9_same wsX8_whyUnaskedOfBoth := goodIn_r _ [13, 14, 15, 16, 7, 17, 18, 94, 95, 96, 97, 98] (by decide +kernel) (by decide +kernel)
set_option maxRecDepth 20000 in
theorem gX9_same_X8_whyUnaskedOfBoth : GoodIn wsX9_same (wsV RX9 171 RX8 yX8_whyUnaskedOfBoth wsX8_whyUnaskedOfBoth) := goodIn_app (goodIn_of _ (by decide +kernel)) ggX9_same_X8_whyUnaskedOfBoth
set_option maxRecDepth 20000 in
theorem ggX9_same_X8_sameWorth : GoodIn wsX9_same wsX8_sameWorth := goodIn_r _ [22, 18, 23, 24, 25, 7, 26, 27, 28, 29, 30, 31, 32, 33, 34, 35, 36, 37, 38, 39, 40, 41, 42, 43, 44, 45, 46, 47, 48, 49, 50, 51, 52, 53, 54, 55, 56, 57, 58, 59, 60, 61, 62, 63, 64, 65, 66, 67, 68, 69, 94, 95, 96, 97, 98] (by decide +kernel) (by decide +kernel)
set_option maxRecDepth 20000 in
theorem gX9_same_X8_sameWorth : GoodIn wsX9_same (wsV RX9 186 RX8 yX8_sameWorth wsX8_sameWorth) := goodIn_app (goodIn_of _ (by decide +kernel)) ggX9_same_X8_sameWorth
set_option maxRecDepth 20000 in
theorem ggX9_same_X0_tell : GoodIn wsX9_same wsX0_tell := goodIn_r _ [74, 75, 76, 77, 73, 78, 79, 80, 81, 82, 83, 84, 99, 100] (by decide +kernel) (by decide +kernel)
set_option maxRecDepth 20000 in
theorem gX9_same_X0_tell : GoodIn wsX9_same (wsV RX9 157 RX0 yX0_tell wsX0_tell) := goodIn_app (goodIn_of _ (by decide +kernel)) ggX9_same_X0_tell
theorem dX9_same_0 : decode cX9_same 0 = .ok (.aload_n 0, 1) := by decide +kernel
theorem dX9_same_1 : decode cX9_same 1 = .ok (.getfield 12, 3) := by decide +kernel
theorem dX9_same_4 : decode cX9_same 4 = .ok (.iload_n 1, 1) := by decide +kernel
theorem dX9_same_5 : decode cX9_same 5 = .ok (.invokevirtual 115, 3) := by decide +kernel
theorem dX9_same_8 : decode cX9_same 8 = .ok (.ifCond .eq 14, 3) := by decide +kernel
theorem dX9_same_11 : decode cX9_same 11 = .ok (.aload_n 0, 1) := by decide +kernel
theorem dX9_same_12 : decode cX9_same 12 = .ok (.getfield 12, 3) := by decide +kernel
theorem dX9_same_15 : decode cX9_same 15 = .ok (.iload_n 2, 1) := by decide +kernel
theorem dX9_same_16 : decode cX9_same 16 = .ok (.invokevirtual 115, 3) := by decide +kernel
theorem dX9_same_19 : decode cX9_same 19 = .ok (.ifCond .ne 5, 3) := by decide +kernel
theorem dX9_same_22 : decode cX9_same 22 = .ok (.iconst (-1), 1) := by decide +kernel
theorem dX9_same_23 : decode cX9_same 23 = .ok (.ireturn, 1) := by decide +kernel
theorem dX9_same_24 : decode cX9_same 24 = .ok (.aload_n 0, 1) := by decide +kernel
theorem dX9_same_25 : decode cX9_same 25 = .ok (.getfield 12, 3) := by decide +kernel
theorem dX9_same_28 : decode cX9_same 28 = .ok (.iload_n 1, 1) := by decide +kernel
theorem dX9_same_29 : decode cX9_same 29 = .ok (.iload_n 2, 1) := by decide +kernel
theorem dX9_same_30 : decode cX9_same 30 = .ok (.invokevirtual 171, 3) := by decide +kernel
theorem dX9_same_33 : decode cX9_same 33 = .ok (.istore_n 3, 1) := by decide +kernel
theorem dX9_same_34 : decode cX9_same 34 = .ok (.iload_n 3, 1) := by decide +kernel
theorem dX9_same_35 : decode cX9_same 35 = .ok (.ifCond .eq 6, 3) := by decide +kernel
theorem dX9_same_38 : decode cX9_same 38 = .ok (.iload_n 3, 1) := by decide +kernel
theorem dX9_same_39 : decode cX9_same 39 = .ok (.ineg, 1) := by decide +kernel
theorem dX9_same_40 : decode cX9_same 40 = .ok (.ireturn, 1) := by decide +kernel
theorem dX9_same_41 : decode cX9_same 41 = .ok (.iconst 0, 1) := by decide +kernel
theorem dX9_same_42 : decode cX9_same 42 = .ok (.istore 4, 2) := by decide +kernel
theorem dX9_same_44 : decode cX9_same 44 = .ok (.iconst (-1), 1) := by decide +kernel
theorem dX9_same_45 : decode cX9_same 45 = .ok (.istore 5, 2) := by decide +kernel
theorem dX9_same_47 : decode cX9_same 47 = .ok (.iconst 0, 1) := by decide +kernel
theorem dX9_same_48 : decode cX9_same 48 = .ok (.istore 6, 2) := by decide +kernel
theorem dX9_same_50 : decode cX9_same 50 = .ok (.iload 6, 2) := by decide +kernel
theorem dX9_same_52 : decode cX9_same 52 = .ok (.aload_n 0, 1) := by decide +kernel
theorem dX9_same_53 : decode cX9_same 53 = .ok (.getfield 12, 3) := by decide +kernel
theorem dX9_same_56 : decode cX9_same 56 = .ok (.getfield 164, 3) := by decide +kernel
theorem dX9_same_59 : decode cX9_same 59 = .ok (.if_icmp .ge 39, 3) := by decide +kernel
theorem dX9_same_62 : decode cX9_same 62 = .ok (.aload_n 0, 1) := by decide +kernel
theorem dX9_same_63 : decode cX9_same 63 = .ok (.getfield 12, 3) := by decide +kernel
theorem dX9_same_66 : decode cX9_same 66 = .ok (.iload_n 1, 1) := by decide +kernel
theorem dX9_same_67 : decode cX9_same 67 = .ok (.iload_n 2, 1) := by decide +kernel
theorem dX9_same_68 : decode cX9_same 68 = .ok (.iload 6, 2) := by decide +kernel
theorem dX9_same_70 : decode cX9_same 70 = .ok (.invokevirtual 186, 3) := by decide +kernel
theorem dX9_same_73 : decode cX9_same 73 = .ok (.ifCond .eq 9, 3) := by decide +kernel
theorem dX9_same_76 : decode cX9_same 76 = .ok (.iinc 4 1, 3) := by decide +kernel
theorem dX9_same_79 : decode cX9_same 79 = .ok (.goto 13, 3) := by decide +kernel
theorem dX9_same_82 : decode cX9_same 82 = .ok (.iload 5, 2) := by decide +kernel
theorem dX9_same_84 : decode cX9_same 84 = .ok (.iconst (-1), 1) := by decide +kernel
theorem dX9_same_85 : decode cX9_same 85 = .ok (.if_icmp .ne 7, 3) := by decide +kernel
theorem dX9_same_88 : decode cX9_same 88 = .ok (.iload 6, 2) := by decide +kernel
theorem dX9_same_90 : decode cX9_same 90 = .ok (.istore 5, 2) := by decide +kernel
theorem dX9_same_92 : decode cX9_same 92 = .ok (.iinc 6 1, 3) := by decide +kernel
theorem dX9_same_95 : decode cX9_same 95 = .ok (.goto (-45), 3) := by decide +kernel
theorem dX9_same_98 : decode cX9_same 98 = .ok (.aload_n 0, 1) := by decide +kernel
theorem dX9_same_99 : decode cX9_same 99 = .ok (.getfield 41, 3) := by decide +kernel
theorem dX9_same_102 : decode cX9_same 102 = .ok (.iload 5, 2) := by decide +kernel
theorem dX9_same_104 : decode cX9_same 104 = .ok (.i2l, 1) := by decide +kernel
theorem dX9_same_105 : decode cX9_same 105 = .ok (.invokevirtual 157, 3) := by decide +kernel
theorem dX9_same_108 : decode cX9_same 108 = .ok (.iload 4, 2) := by decide +kernel
theorem dX9_same_110 : decode cX9_same 110 = .ok (.ireturn, 1) := by decide +kernel
set_option maxRecDepth 20000 in
theorem ggX9_runs_X8_isProper : GoodIn wsX9_runs wsX8_isProper := goodIn_r _ [10, 11, 12, 13, 14, 9, 15, 16, 101, 102, 103, 104, 105] (by decide +kernel) (by decide +kernel)
set_option maxRecDepth 20000 in
theorem gX9_runs_X8_isProper : GoodIn wsX9_runs (wsV RX9 189 RX8 yX8_isProper wsX8_isProper) := goodIn_app (goodIn_of _ (by decide +kernel)) ggX9_runs_X8_isProper
set_option maxRecDepth 20000 in
theorem ggX9_runs_X8_hasColumn : GoodIn wsX9_runs wsX8_hasColumn := goodIn_r _ [15, 16, 101, 102, 103, 104, 105] (by decide +kernel) (by decide +kernel)
set_option maxRecDepth 20000 in
theorem gX9_runs_X8_hasColumn : GoodIn wsX9_runs (wsV RX9 115 RX8 yX8_hasColumn wsX8_hasColumn) := goodIn_app (goodIn_of _ (by decide +kernel)) ggX9_runs_X8_hasColumn
set_option maxRecDepth 20000 in
theorem ggX9_runs_X6_readColumn : GoodIn wsX9_runs wsX6_readColumn := goodIn_r _ [22, 23, 24, 25, 26, 27, 28, 29, 30, 31, 9, 32, 33, 34, 35, 36, 37, 38, 39, 40, 41, 42, 43, 44, 45, 46, 47, 48, 21, 49, 50, 51, 52, 53, 101, 102, 103, 104, 105, 106, 107, 108, 109] (by decide +kernel) (by decide +kernel)
set_option maxRecDepth 20000 in
theorem gX9_runs_X6_readColumn : GoodIn wsX9_runs (wsV RX9 192 RX6 yX6_readColumn wsX6_readColumn) := goodIn_app (goodIn_of _ (by decide +kernel)) ggX9_runs_X6_readColumn
set_option maxRecDepth 20000 in
theorem ggX9_runs_X8_beginsRun : GoodIn wsX9_runs wsX8_beginsRun := goodIn_r _ [57, 58, 59, 60, 9, 61, 62, 30, 31, 32, 33, 101, 102, 103, 104, 105] (by decide +kernel) (by decide +kernel)
set_option maxRecDepth 20000 in
theorem gX9_runs_X8_beginsRun : GoodIn wsX9_runs (wsV RX9 196 RX8 yX8_beginsRun wsX8_beginsRun) := goodIn_app (goodIn_of _ (by decide +kernel)) ggX9_runs_X8_beginsRun
set_option maxRecDepth 20000 in
theorem ggX9_runs_X0_tell__ : GoodIn wsX9_runs wsX0_tell__ := goodIn_r _ [67, 68, 69, 70, 66, 71, 72, 73, 74, 75, 76, 77, 78, 79, 80, 81, 82, 83, 84, 85, 110, 111] (by decide +kernel) (by decide +kernel)
set_option maxRecDepth 20000 in
theorem gX9_runs_X0_tell__ : GoodIn wsX9_runs (wsV RX9 203 RX0 yX0_tell__ wsX0_tell__) := goodIn_app (goodIn_of _ (by decide +kernel)) ggX9_runs_X0_tell__
set_option maxRecDepth 20000 in
theorem ggX9_runs_X8_runsOf : GoodIn wsX9_runs wsX8_runsOf := goodIn_r _ [89, 90, 91, 55, 56, 9, 57, 58, 59, 60, 61, 62, 30, 31, 32, 33, 101, 102, 103, 104, 105] (by decide +kernel) (by decide +kernel)
set_option maxRecDepth 20000 in
theorem gX9_runs_X8_runsOf : GoodIn wsX9_runs (wsV RX9 206 RX8 yX8_runsOf wsX8_runsOf) := goodIn_app (goodIn_of _ (by decide +kernel)) ggX9_runs_X8_runsOf
theorem dX9_runs_0 : decode cX9_runs 0 = .ok (.aload_n 0, 1) := by decide +kernel
theorem dX9_runs_1 : decode cX9_runs 1 = .ok (.getfield 12, 3) := by decide +kernel
theorem dX9_runs_4 : decode cX9_runs 4 = .ok (.iload_n 1, 1) := by decide +kernel
theorem dX9_runs_5 : decode cX9_runs 5 = .ok (.invokevirtual 189, 3) := by decide +kernel
theorem dX9_runs_8 : decode cX9_runs 8 = .ok (.ifCond .ne 21, 3) := by decide +kernel
theorem dX9_runs_11 : decode cX9_runs 11 = .ok (.aload_n 0, 1) := by decide +kernel
theorem dX9_runs_12 : decode cX9_runs 12 = .ok (.getfield 12, 3) := by decide +kernel
theorem dX9_runs_15 : decode cX9_runs 15 = .ok (.iload_n 1, 1) := by decide +kernel
theorem dX9_runs_16 : decode cX9_runs 16 = .ok (.invokevirtual 115, 3) := by decide +kernel
theorem dX9_runs_19 : decode cX9_runs 19 = .ok (.ifCond .eq 8, 3) := by decide +kernel
theorem dX9_runs_22 : decode cX9_runs 22 = .ok (.bipush (-2), 2) := by decide +kernel
theorem dX9_runs_24 : decode cX9_runs 24 = .ok (.goto 4, 3) := by decide +kernel
theorem dX9_runs_27 : decode cX9_runs 27 = .ok (.iconst (-1), 1) := by decide +kernel
theorem dX9_runs_28 : decode cX9_runs 28 = .ok (.ireturn, 1) := by decide +kernel
theorem dX9_runs_29 : decode cX9_runs 29 = .ok (.aload_n 0, 1) := by decide +kernel
theorem dX9_runs_30 : decode cX9_runs 30 = .ok (.getfield 48, 3) := by decide +kernel
theorem dX9_runs_33 : decode cX9_runs 33 = .ok (.aload_n 0, 1) := by decide +kernel
theorem dX9_runs_34 : decode cX9_runs 34 = .ok (.getfield 12, 3) := by decide +kernel
theorem dX9_runs_37 : decode cX9_runs 37 = .ok (.iload_n 1, 1) := by decide +kernel
theorem dX9_runs_38 : decode cX9_runs 38 = .ok (.invokevirtual 192, 3) := by decide +kernel
theorem dX9_runs_41 : decode cX9_runs 41 = .ok (.iconst 0, 1) := by decide +kernel
theorem dX9_runs_42 : decode cX9_runs 42 = .ok (.istore_n 2, 1) := by decide +kernel
theorem dX9_runs_43 : decode cX9_runs 43 = .ok (.iconst (-1), 1) := by decide +kernel
theorem dX9_runs_44 : decode cX9_runs 44 = .ok (.istore_n 3, 1) := by decide +kernel
theorem dX9_runs_45 : decode cX9_runs 45 = .ok (.iconst 0, 1) := by decide +kernel
theorem dX9_runs_46 : decode cX9_runs 46 = .ok (.istore 4, 2) := by decide +kernel
theorem dX9_runs_48 : decode cX9_runs 48 = .ok (.iconst 0, 1) := by decide +kernel
theorem dX9_runs_49 : decode cX9_runs 49 = .ok (.istore 5, 2) := by decide +kernel
theorem dX9_runs_51 : decode cX9_runs 51 = .ok (.iload 5, 2) := by decide +kernel
theorem dX9_runs_53 : decode cX9_runs 53 = .ok (.aload_n 0, 1) := by decide +kernel
theorem dX9_runs_54 : decode cX9_runs 54 = .ok (.getfield 12, 3) := by decide +kernel
theorem dX9_runs_57 : decode cX9_runs 57 = .ok (.getfield 164, 3) := by decide +kernel
theorem dX9_runs_60 : decode cX9_runs 60 = .ok (.if_icmp .ge 48, 3) := by decide +kernel
theorem dX9_runs_63 : decode cX9_runs 63 = .ok (.aload_n 0, 1) := by decide +kernel
theorem dX9_runs_64 : decode cX9_runs 64 = .ok (.getfield 12, 3) := by decide +kernel
theorem dX9_runs_67 : decode cX9_runs 67 = .ok (.iload_n 1, 1) := by decide +kernel
theorem dX9_runs_68 : decode cX9_runs 68 = .ok (.iload 5, 2) := by decide +kernel
theorem dX9_runs_70 : decode cX9_runs 70 = .ok (.invokevirtual 196, 3) := by decide +kernel
theorem dX9_runs_73 : decode cX9_runs 73 = .ok (.ifCond .eq 7, 3) := by decide +kernel
theorem dX9_runs_76 : decode cX9_runs 76 = .ok (.iload 5, 2) := by decide +kernel
theorem dX9_runs_78 : decode cX9_runs 78 = .ok (.istore 4, 2) := by decide +kernel
theorem dX9_runs_80 : decode cX9_runs 80 = .ok (.iload 5, 2) := by decide +kernel
theorem dX9_runs_82 : decode cX9_runs 82 = .ok (.iload 4, 2) := by decide +kernel
theorem dX9_runs_84 : decode cX9_runs 84 = .ok (.isub, 1) := by decide +kernel
theorem dX9_runs_85 : decode cX9_runs 85 = .ok (.iconst 1, 1) := by decide +kernel
theorem dX9_runs_86 : decode cX9_runs 86 = .ok (.iadd, 1) := by decide +kernel
theorem dX9_runs_87 : decode cX9_runs 87 = .ok (.iload_n 2, 1) := by decide +kernel
theorem dX9_runs_88 : decode cX9_runs 88 = .ok (.if_icmp .le 14, 3) := by decide +kernel
theorem dX9_runs_91 : decode cX9_runs 91 = .ok (.iload 5, 2) := by decide +kernel
theorem dX9_runs_93 : decode cX9_runs 93 = .ok (.iload 4, 2) := by decide +kernel
theorem dX9_runs_95 : decode cX9_runs 95 = .ok (.isub, 1) := by decide +kernel
theorem dX9_runs_96 : decode cX9_runs 96 = .ok (.iconst 1, 1) := by decide +kernel
theorem dX9_runs_97 : decode cX9_runs 97 = .ok (.iadd, 1) := by decide +kernel
theorem dX9_runs_98 : decode cX9_runs 98 = .ok (.istore_n 2, 1) := by decide +kernel
theorem dX9_runs_99 : decode cX9_runs 99 = .ok (.iload 4, 2) := by decide +kernel
theorem dX9_runs_101 : decode cX9_runs 101 = .ok (.istore_n 3, 1) := by decide +kernel
theorem dX9_runs_102 : decode cX9_runs 102 = .ok (.iinc 5 1, 3) := by decide +kernel
theorem dX9_runs_105 : decode cX9_runs 105 = .ok (.goto (-54), 3) := by decide +kernel
theorem dX9_runs_108 : decode cX9_runs 108 = .ok (.aload_n 0, 1) := by decide +kernel
theorem dX9_runs_109 : decode cX9_runs 109 = .ok (.getfield 41, 3) := by decide +kernel
theorem dX9_runs_112 : decode cX9_runs 112 = .ok (.aload_n 0, 1) := by decide +kernel
theorem dX9_runs_113 : decode cX9_runs 113 = .ok (.getfield 48, 3) := by decide +kernel
theorem dX9_runs_116 : decode cX9_runs 116 = .ok (.getfield 200, 3) := by decide +kernel
theorem dX9_runs_119 : decode cX9_runs 119 = .ok (.iload_n 1, 1) := by decide +kernel
theorem dX9_runs_120 : decode cX9_runs 120 = .ok (.iaload, 1) := by decide +kernel
theorem dX9_runs_121 : decode cX9_runs 121 = .ok (.i2l, 1) := by decide +kernel
theorem dX9_runs_122 : decode cX9_runs 122 = .ok (.iload_n 2, 1) := by decide +kernel
theorem dX9_runs_123 : decode cX9_runs 123 = .ok (.i2l, 1) := by decide +kernel
theorem dX9_runs_124 : decode cX9_runs 124 = .ok (.iload_n 3, 1) := by decide +kernel
theorem dX9_runs_125 : decode cX9_runs 125 = .ok (.i2l, 1) := by decide +kernel
theorem dX9_runs_126 : decode cX9_runs 126 = .ok (.invokevirtual 203, 3) := by decide +kernel
theorem dX9_runs_129 : decode cX9_runs 129 = .ok (.aload_n 0, 1) := by decide +kernel
theorem dX9_runs_130 : decode cX9_runs 130 = .ok (.getfield 12, 3) := by decide +kernel
theorem dX9_runs_133 : decode cX9_runs 133 = .ok (.iload_n 1, 1) := by decide +kernel
theorem dX9_runs_134 : decode cX9_runs 134 = .ok (.invokevirtual 206, 3) := by decide +kernel
theorem dX9_runs_137 : decode cX9_runs 137 = .ok (.ireturn, 1) := by decide +kernel
set_option maxRecDepth 20000 in
theorem ggX9_all_X8_properSet : GoodIn wsX9_all wsX8_properSet := goodIn_r _ [8, 9, 10, 11, 12, 7, 13, 14, 15, 16, 17, 18, 76, 77, 78, 79, 80] (by decide +kernel) (by decide +kernel)
set_option maxRecDepth 20000 in
theorem gX9_all_X8_properSet : GoodIn wsX9_all (wsV RX9 209 RX8 yX8_properSet wsX8_properSet) := goodIn_app (goodIn_of _ (by decide +kernel)) ggX9_all_X8_properSet
set_option maxRecDepth 20000 in
theorem ggX9_all_J6_bitCount_0f7a4 : GoodIn wsX9_all wsJ6_bitCount_0f7a4 := goodIn_r _ [22, 23, 24, 25] (by decide +kernel) (by decide +kernel)
set_option maxRecDepth 20000 in
theorem gX9_all_J6_bitCount_0f7a4 : GoodIn wsX9_all (va_wsS RX9 178 yJ6_bitCount_0f7a4 wsJ6_bitCount_0f7a4) := goodIn_app (goodIn_of _ (by decide +kernel)) ggX9_all_J6_bitCount_0f7a4
set_option maxRecDepth 20000 in
theorem ggX9_all_X0_tell_ : GoodIn wsX9_all wsX0_tell_ := goodIn_r _ [30, 31, 32, 33, 29, 34, 35, 36, 37, 38, 39, 40, 41, 42, 43, 44, 81, 82] (by decide +kernel) (by decide +kernel)
set_option maxRecDepth 20000 in
theorem gX9_all_X0_tell_ : GoodIn wsX9_all (wsV RX9 212 RX0 yX0_tell_ wsX0_tell_) := goodIn_app (goodIn_of _ (by decide +kernel)) ggX9_all_X0_tell_
set_option maxRecDepth 20000 in
theorem ggX9_all_X8_runsOfAll : GoodIn wsX9_all wsX8_runsOfAll := goodIn_r _ [48, 9, 10, 11, 12, 7, 13, 14, 15, 16, 17, 18, 49, 50, 51, 52, 53, 54, 55, 56, 57, 58, 59, 60, 61, 62, 63, 64, 65, 66, 76, 77, 78, 79, 80] (by decide +kernel) (by decide +kernel)
set_option maxRecDepth 20000 in
theorem gX9_all_X8_runsOfAll : GoodIn wsX9_all (wsV RX9 215 RX8 yX8_runsOfAll wsX8_runsOfAll) := goodIn_app (goodIn_of _ (by decide +kernel)) ggX9_all_X8_runsOfAll
theorem dX9_all_0 : decode cX9_all 0 = .ok (.aload_n 0, 1) := by decide +kernel
theorem dX9_all_1 : decode cX9_all 1 = .ok (.getfield 12, 3) := by decide +kernel
theorem dX9_all_4 : decode cX9_all 4 = .ok (.invokevirtual 209, 3) := by decide +kernel
theorem dX9_all_7 : decode cX9_all 7 = .ok (.istore_n 1, 1) := by decide +kernel
theorem dX9_all_8 : decode cX9_all 8 = .ok (.aload_n 0, 1) := by decide +kernel
theorem dX9_all_9 : decode cX9_all 9 = .ok (.getfield 41, 3) := by decide +kernel
theorem dX9_all_12 : decode cX9_all 12 = .ok (.iload_n 1, 1) := by decide +kernel
theorem dX9_all_13 : decode cX9_all 13 = .ok (.i2l, 1) := by decide +kernel
theorem dX9_all_14 : decode cX9_all 14 = .ok (.iload_n 1, 1) := by decide +kernel
theorem dX9_all_15 : decode cX9_all 15 = .ok (.invokestatic 178, 3) := by decide +kernel
theorem dX9_all_18 : decode cX9_all 18 = .ok (.aload_n 0, 1) := by decide +kernel
theorem dX9_all_19 : decode cX9_all 19 = .ok (.getfield 12, 3) := by decide +kernel
theorem dX9_all_22 : decode cX9_all 22 = .ok (.getfield 164, 3) := by decide +kernel
theorem dX9_all_25 : decode cX9_all 25 = .ok (.imul, 1) := by decide +kernel
theorem dX9_all_26 : decode cX9_all 26 = .ok (.i2l, 1) := by decide +kernel
theorem dX9_all_27 : decode cX9_all 27 = .ok (.invokevirtual 212, 3) := by decide +kernel
theorem dX9_all_30 : decode cX9_all 30 = .ok (.aload_n 0, 1) := by decide +kernel
theorem dX9_all_31 : decode cX9_all 31 = .ok (.getfield 12, 3) := by decide +kernel
theorem dX9_all_34 : decode cX9_all 34 = .ok (.invokevirtual 215, 3) := by decide +kernel
theorem dX9_all_37 : decode cX9_all 37 = .ok (.ireturn, 1) := by decide +kernel
set_option maxRecDepth 20000 in
theorem ggX9_unlike_X8_hasRow : GoodIn wsX9_unlike wsX8_hasRow := goodIn_r _ [6, 7, 40, 41, 42, 43, 44] (by decide +kernel) (by decide +kernel)
set_option maxRecDepth 20000 in
theorem gX9_unlike_X8_hasRow : GoodIn wsX9_unlike (wsV RX9 218 RX8 yX8_hasRow wsX8_hasRow) := goodIn_app (goodIn_of _ (by decide +kernel)) ggX9_unlike_X8_hasRow
set_option maxRecDepth 20000 in
theorem ggX9_unlike_X8_unlikeCells : GoodIn wsX9_unlike wsX8_unlikeCells := goodIn_r _ [11, 12, 13, 14, 15, 5, 16, 17, 18, 19, 20, 21, 22, 23, 24, 25, 26, 27, 28, 29, 30, 40, 41, 42, 43, 44] (by decide +kernel) (by decide +kernel)
set_option maxRecDepth 20000 in
theorem gX9_unlike_X8_unlikeCells : GoodIn wsX9_unlike (wsV RX9 221 RX8 yX8_unlikeCells wsX8_unlikeCells) := goodIn_app (goodIn_of _ (by decide +kernel)) ggX9_unlike_X8_unlikeCells
theorem dX9_unlike_0 : decode cX9_unlike 0 = .ok (.aload_n 0, 1) := by decide +kernel
theorem dX9_unlike_1 : decode cX9_unlike 1 = .ok (.getfield 12, 3) := by decide +kernel
theorem dX9_unlike_4 : decode cX9_unlike 4 = .ok (.iload_n 1, 1) := by decide +kernel
theorem dX9_unlike_5 : decode cX9_unlike 5 = .ok (.invokevirtual 218, 3) := by decide +kernel
theorem dX9_unlike_8 : decode cX9_unlike 8 = .ok (.ifCond .eq 26, 3) := by decide +kernel
theorem dX9_unlike_11 : decode cX9_unlike 11 = .ok (.aload_n 0, 1) := by decide +kernel
theorem dX9_unlike_12 : decode cX9_unlike 12 = .ok (.getfield 12, 3) := by decide +kernel
theorem dX9_unlike_15 : decode cX9_unlike 15 = .ok (.iload_n 2, 1) := by decide +kernel
theorem dX9_unlike_16 : decode cX9_unlike 16 = .ok (.invokevirtual 218, 3) := by decide +kernel
theorem dX9_unlike_19 : decode cX9_unlike 19 = .ok (.ifCond .eq 15, 3) := by decide +kernel
theorem dX9_unlike_22 : decode cX9_unlike 22 = .ok (.aload_n 0, 1) := by decide +kernel
theorem dX9_unlike_23 : decode cX9_unlike 23 = .ok (.getfield 12, 3) := by decide +kernel
theorem dX9_unlike_26 : decode cX9_unlike 26 = .ok (.iload_n 1, 1) := by decide +kernel
theorem dX9_unlike_27 : decode cX9_unlike 27 = .ok (.iload_n 2, 1) := by decide +kernel
theorem dX9_unlike_28 : decode cX9_unlike 28 = .ok (.invokevirtual 221, 3) := by decide +kernel
theorem dX9_unlike_31 : decode cX9_unlike 31 = .ok (.goto 4, 3) := by decide +kernel
theorem dX9_unlike_34 : decode cX9_unlike 34 = .ok (.iconst (-1), 1) := by decide +kernel
theorem dX9_unlike_35 : decode cX9_unlike 35 = .ok (.ireturn, 1) := by decide +kernel
set_option maxRecDepth 20000 in
theorem ggX9_rank_X8_hasColumn : GoodIn wsX9_rank wsX8_hasColumn := goodIn_r _ [9, 10, 91, 92, 93, 94, 95] (by decide +kernel) (by decide +kernel)
set_option maxRecDepth 20000 in
theorem gX9_rank_X8_hasColumn : GoodIn wsX9_rank (wsV RX9 115 RX8 yX8_hasColumn wsX8_hasColumn) := goodIn_app (goodIn_of _ (by decide +kernel)) ggX9_rank_X8_hasColumn
set_option maxRecDepth 20000 in
theorem ggX9_rank_X8_hasRow : GoodIn wsX9_rank wsX8_hasRow := goodIn_r _ [14, 15, 91, 92, 93, 94, 95] (by decide +kernel) (by decide +kernel)
set_option maxRecDepth 20000 in
theorem gX9_rank_X8_hasRow : GoodIn wsX9_rank (wsV RX9 218 RX8 yX8_hasRow wsX8_hasRow) := goodIn_app (goodIn_of _ (by decide +kernel)) ggX9_rank_X8_hasRow
set_option maxRecDepth 20000 in
theorem ggX9_rank_X8_isProper : GoodIn wsX9_rank wsX8_isProper := goodIn_r _ [19, 20, 21, 6, 7, 8, 9, 10, 91, 92, 93, 94, 95] (by decide +kernel) (by decide +kernel)
set_option maxRecDepth 20000 in
theorem gX9_rank_X8_isProper : GoodIn wsX9_rank (wsV RX9 189 RX8 yX8_isProper wsX8_isProper) := goodIn_app (goodIn_of _ (by decide +kernel)) ggX9_rank_X8_isProper
set_option maxRecDepth 20000 in
theorem ggX9_rank_X6_readColumn : GoodIn wsX9_rank wsX6_readColumn := goodIn_r _ [26, 27, 28, 29, 30, 31, 32, 33, 34, 35, 8, 36, 37, 38, 39, 40, 41, 42, 43, 44, 45, 46, 47, 48, 49, 50, 51, 52, 25, 53, 54, 55, 56, 57, 91, 92, 93, 94, 95, 96, 97, 98, 99] (by decide +kernel) (by decide +kernel)
set_option maxRecDepth 20000 in
theorem gX9_rank_X6_readColumn : GoodIn wsX9_rank (wsV RX9 192 RX6 yX6_readColumn wsX6_readColumn) := goodIn_app (goodIn_of _ (by decide +kernel)) ggX9_rank_X6_readColumn
set_option maxRecDepth 20000 in
theorem ggX9_rank_X8_isLike : GoodIn wsX9_rank wsX8_isLike := goodIn_r _ [61, 62, 34, 35, 8, 36, 37, 91, 92, 93, 94, 95] (by decide +kernel) (by decide +kernel)
set_option maxRecDepth 20000 in
theorem gX9_rank_X8_isLike : GoodIn wsX9_rank (wsV RX9 224 RX8 yX8_isLike wsX8_isLike) := goodIn_app (goodIn_of _ (by decide +kernel)) ggX9_rank_X8_isLike
set_option maxRecDepth 20000 in
theorem ggX9_rank_X0_tell : GoodIn wsX9_rank wsX0_tell := goodIn_r _ [67, 68, 69, 70, 66, 71, 72, 73, 74, 75, 76, 77, 100, 101] (by decide +kernel) (by decide +kernel)
set_option maxRecDepth 20000 in
theorem gX9_rank_X0_tell : GoodIn wsX9_rank (wsV RX9 157 RX0 yX0_tell wsX0_tell) := goodIn_app (goodIn_of _ (by decide +kernel)) ggX9_rank_X0_tell
set_option maxRecDepth 20000 in
theorem ggX9_rank_X6_of : GoodIn wsX9_rank wsX6_of := goodIn_r _ [81, 32, 96, 97, 98, 99] (by decide +kernel) (by decide +kernel)
set_option maxRecDepth 20000 in
theorem gX9_rank_X6_of : GoodIn wsX9_rank (wsV RX9 227 RX6 yX6_of wsX6_of) := goodIn_app (goodIn_of _ (by decide +kernel)) ggX9_rank_X6_of
theorem dX9_rank_0 : decode cX9_rank 0 = .ok (.aload_n 0, 1) := by decide +kernel
theorem dX9_rank_1 : decode cX9_rank 1 = .ok (.getfield 12, 3) := by decide +kernel
theorem dX9_rank_4 : decode cX9_rank 4 = .ok (.iload_n 1, 1) := by decide +kernel
theorem dX9_rank_5 : decode cX9_rank 5 = .ok (.invokevirtual 115, 3) := by decide +kernel
theorem dX9_rank_8 : decode cX9_rank 8 = .ok (.ifCond .eq 14, 3) := by decide +kernel
theorem dX9_rank_11 : decode cX9_rank 11 = .ok (.aload_n 0, 1) := by decide +kernel
theorem dX9_rank_12 : decode cX9_rank 12 = .ok (.getfield 12, 3) := by decide +kernel
theorem dX9_rank_15 : decode cX9_rank 15 = .ok (.iload_n 2, 1) := by decide +kernel
theorem dX9_rank_16 : decode cX9_rank 16 = .ok (.invokevirtual 218, 3) := by decide +kernel
theorem dX9_rank_19 : decode cX9_rank 19 = .ok (.ifCond .ne 5, 3) := by decide +kernel
theorem dX9_rank_22 : decode cX9_rank 22 = .ok (.iconst (-1), 1) := by decide +kernel
theorem dX9_rank_23 : decode cX9_rank 23 = .ok (.ireturn, 1) := by decide +kernel
theorem dX9_rank_24 : decode cX9_rank 24 = .ok (.aload_n 0, 1) := by decide +kernel
theorem dX9_rank_25 : decode cX9_rank 25 = .ok (.getfield 12, 3) := by decide +kernel
theorem dX9_rank_28 : decode cX9_rank 28 = .ok (.iload_n 1, 1) := by decide +kernel
theorem dX9_rank_29 : decode cX9_rank 29 = .ok (.invokevirtual 189, 3) := by decide +kernel
theorem dX9_rank_32 : decode cX9_rank 32 = .ok (.ifCond .ne 6, 3) := by decide +kernel
theorem dX9_rank_35 : decode cX9_rank 35 = .ok (.bipush (-2), 2) := by decide +kernel
theorem dX9_rank_37 : decode cX9_rank 37 = .ok (.ireturn, 1) := by decide +kernel
theorem dX9_rank_38 : decode cX9_rank 38 = .ok (.aload_n 0, 1) := by decide +kernel
theorem dX9_rank_39 : decode cX9_rank 39 = .ok (.getfield 48, 3) := by decide +kernel
theorem dX9_rank_42 : decode cX9_rank 42 = .ok (.aload_n 0, 1) := by decide +kernel
theorem dX9_rank_43 : decode cX9_rank 43 = .ok (.getfield 12, 3) := by decide +kernel
theorem dX9_rank_46 : decode cX9_rank 46 = .ok (.iload_n 1, 1) := by decide +kernel
theorem dX9_rank_47 : decode cX9_rank 47 = .ok (.invokevirtual 192, 3) := by decide +kernel
theorem dX9_rank_50 : decode cX9_rank 50 = .ok (.iconst 0, 1) := by decide +kernel
theorem dX9_rank_51 : decode cX9_rank 51 = .ok (.istore_n 3, 1) := by decide +kernel
theorem dX9_rank_52 : decode cX9_rank 52 = .ok (.iconst 0, 1) := by decide +kernel
theorem dX9_rank_53 : decode cX9_rank 53 = .ok (.istore 4, 2) := by decide +kernel
theorem dX9_rank_55 : decode cX9_rank 55 = .ok (.iload 4, 2) := by decide +kernel
theorem dX9_rank_57 : decode cX9_rank 57 = .ok (.aload_n 0, 1) := by decide +kernel
theorem dX9_rank_58 : decode cX9_rank 58 = .ok (.getfield 12, 3) := by decide +kernel
theorem dX9_rank_61 : decode cX9_rank 61 = .ok (.getfield 164, 3) := by decide +kernel
theorem dX9_rank_64 : decode cX9_rank 64 = .ok (.if_icmp .ge 26, 3) := by decide +kernel
theorem dX9_rank_67 : decode cX9_rank 67 = .ok (.aload_n 0, 1) := by decide +kernel
theorem dX9_rank_68 : decode cX9_rank 68 = .ok (.getfield 12, 3) := by decide +kernel
theorem dX9_rank_71 : decode cX9_rank 71 = .ok (.iload_n 1, 1) := by decide +kernel
theorem dX9_rank_72 : decode cX9_rank 72 = .ok (.iload_n 2, 1) := by decide +kernel
theorem dX9_rank_73 : decode cX9_rank 73 = .ok (.iload 4, 2) := by decide +kernel
theorem dX9_rank_75 : decode cX9_rank 75 = .ok (.invokevirtual 224, 3) := by decide +kernel
theorem dX9_rank_78 : decode cX9_rank 78 = .ok (.ifCond .eq 6, 3) := by decide +kernel
theorem dX9_rank_81 : decode cX9_rank 81 = .ok (.iinc 3 1, 3) := by decide +kernel
theorem dX9_rank_84 : decode cX9_rank 84 = .ok (.iinc 4 1, 3) := by decide +kernel
theorem dX9_rank_87 : decode cX9_rank 87 = .ok (.goto (-32), 3) := by decide +kernel
theorem dX9_rank_90 : decode cX9_rank 90 = .ok (.aload_n 0, 1) := by decide +kernel
theorem dX9_rank_91 : decode cX9_rank 91 = .ok (.getfield 41, 3) := by decide +kernel
theorem dX9_rank_94 : decode cX9_rank 94 = .ok (.iload_n 3, 1) := by decide +kernel
theorem dX9_rank_95 : decode cX9_rank 95 = .ok (.i2l, 1) := by decide +kernel
theorem dX9_rank_96 : decode cX9_rank 96 = .ok (.invokevirtual 157, 3) := by decide +kernel
theorem dX9_rank_99 : decode cX9_rank 99 = .ok (.aload_n 0, 1) := by decide +kernel
theorem dX9_rank_100 : decode cX9_rank 100 = .ok (.getfield 48, 3) := by decide +kernel
theorem dX9_rank_103 : decode cX9_rank 103 = .ok (.iload_n 1, 1) := by decide +kernel
theorem dX9_rank_104 : decode cX9_rank 104 = .ok (.iload_n 2, 1) := by decide +kernel
theorem dX9_rank_105 : decode cX9_rank 105 = .ok (.invokevirtual 227, 3) := by decide +kernel
theorem dX9_rank_108 : decode cX9_rank 108 = .ok (.ireturn, 1) := by decide +kernel
set_option maxRecDepth 20000 in
theorem ggX9_least_X6_readAll : GoodIn wsX9_least wsX6_readAll := goodIn_r _ [10, 11, 12, 13, 14, 15, 16, 17, 18, 19, 20, 21, 22, 23, 24, 25, 9, 26, 27, 28, 29, 30, 31, 32, 33, 34, 35, 36, 37, 38, 39, 40, 41, 42, 43, 44, 45, 46, 47, 48, 49, 50, 51, 52, 53, 54, 55, 56, 57, 102, 103, 104, 105, 106, 107, 108, 109, 110] (by decide +kernel) (by decide +kernel)
set_option maxRecDepth 20000 in
theorem gX9_least_X6_readAll : GoodIn wsX9_least (wsV RX9 230 RX6 yX6_readAll wsX6_readAll) := goodIn_app (goodIn_of _ (by decide +kernel)) ggX9_least_X6_readAll
set_option maxRecDepth 20000 in
theorem ggX9_least_X8_isProper : GoodIn wsX9_least wsX8_isProper := goodIn_r _ [16, 17, 18, 19, 20, 15, 21, 22, 102, 103, 104, 105, 106] (by decide +kernel) (by decide +kernel)
set_option maxRecDepth 20000 in
theorem gX9_least_X8_isProper : GoodIn wsX9_least (wsV RX9 189 RX8 yX8_isProper wsX8_isProper) := goodIn_app (goodIn_of _ (by decide +kernel)) ggX9_least_X8_isProper
set_option maxRecDepth 20000 in
theorem ggX9_least_X8_runsOfAll : GoodIn wsX9_least wsX8_runsOfAll := goodIn_r _ [62, 22, 63, 13, 14, 15, 16, 17, 18, 19, 20, 21, 64, 65, 66, 67, 68, 69, 70, 71, 72, 73, 74, 75, 76, 77, 34, 35, 36, 37, 102, 103, 104, 105, 106] (by decide +kernel) (by decide +kernel)
set_option maxRecDepth 20000 in
theorem gX9_least_X8_runsOfAll : GoodIn wsX9_least (wsV RX9 215 RX8 yX8_runsOfAll wsX8_runsOfAll) := goodIn_app (goodIn_of _ (by decide +kernel)) ggX9_least_X8_runsOfAll
set_option maxRecDepth 20000 in
theorem ggX9_least_X0_tell : GoodIn wsX9_least wsX0_tell := goodIn_r _ [82, 83, 84, 85, 81, 86, 87, 88, 89, 90, 91, 92, 111, 112] (by decide +kernel) (by decide +kernel)
set_option maxRecDepth 20000 in
theorem gX9_least_X0_tell : GoodIn wsX9_least (wsV RX9 157 RX0 yX0_tell wsX0_tell) := goodIn_app (goodIn_of _ (by decide +kernel)) ggX9_least_X0_tell
theorem dX9_least_0 : decode cX9_least 0 = .ok (.aload_n 0, 1) := by decide +kernel
theorem dX9_least_1 : decode cX9_least 1 = .ok (.getfield 48, 3) := by decide +kernel
theorem dX9_least_4 : decode cX9_least 4 = .ok (.aload_n 0, 1) := by decide +kernel
theorem dX9_least_5 : decode cX9_least 5 = .ok (.getfield 12, 3) := by decide +kernel
theorem dX9_least_8 : decode cX9_least 8 = .ok (.invokevirtual 230, 3) := by decide +kernel
theorem dX9_least_11 : decode cX9_least 11 = .ok (.iconst 0, 1) := by decide +kernel
theorem dX9_least_12 : decode cX9_least 12 = .ok (.istore_n 1, 1) := by decide +kernel
theorem dX9_least_13 : decode cX9_least 13 = .ok (.iconst 0, 1) := by decide +kernel
theorem dX9_least_14 : decode cX9_least 14 = .ok (.istore_n 2, 1) := by decide +kernel
theorem dX9_least_15 : decode cX9_least 15 = .ok (.iload_n 2, 1) := by decide +kernel
theorem dX9_least_16 : decode cX9_least 16 = .ok (.aload_n 0, 1) := by decide +kernel
theorem dX9_least_17 : decode cX9_least 17 = .ok (.getfield 12, 3) := by decide +kernel
theorem dX9_least_20 : decode cX9_least 20 = .ok (.getfield 95, 3) := by decide +kernel
theorem dX9_least_23 : decode cX9_least 23 = .ok (.if_icmp .ge 32, 3) := by decide +kernel
theorem dX9_least_26 : decode cX9_least 26 = .ok (.aload_n 0, 1) := by decide +kernel
theorem dX9_least_27 : decode cX9_least 27 = .ok (.getfield 12, 3) := by decide +kernel
theorem dX9_least_30 : decode cX9_least 30 = .ok (.iload_n 2, 1) := by decide +kernel
theorem dX9_least_31 : decode cX9_least 31 = .ok (.invokevirtual 189, 3) := by decide +kernel
theorem dX9_least_34 : decode cX9_least 34 = .ok (.ifCond .eq 15, 3) := by decide +kernel
theorem dX9_least_37 : decode cX9_least 37 = .ok (.iload_n 1, 1) := by decide +kernel
theorem dX9_least_38 : decode cX9_least 38 = .ok (.aload_n 0, 1) := by decide +kernel
theorem dX9_least_39 : decode cX9_least 39 = .ok (.getfield 48, 3) := by decide +kernel
theorem dX9_least_42 : decode cX9_least 42 = .ok (.getfield 200, 3) := by decide +kernel
theorem dX9_least_45 : decode cX9_least 45 = .ok (.iload_n 2, 1) := by decide +kernel
theorem dX9_least_46 : decode cX9_least 46 = .ok (.iaload, 1) := by decide +kernel
theorem dX9_least_47 : decode cX9_least 47 = .ok (.iadd, 1) := by decide +kernel
theorem dX9_least_48 : decode cX9_least 48 = .ok (.istore_n 1, 1) := by decide +kernel
theorem dX9_least_49 : decode cX9_least 49 = .ok (.iinc 2 1, 3) := by decide +kernel
theorem dX9_least_52 : decode cX9_least 52 = .ok (.goto (-37), 3) := by decide +kernel
theorem dX9_least_55 : decode cX9_least 55 = .ok (.aload_n 0, 1) := by decide +kernel
theorem dX9_least_56 : decode cX9_least 56 = .ok (.getfield 41, 3) := by decide +kernel
theorem dX9_least_59 : decode cX9_least 59 = .ok (.aload_n 0, 1) := by decide +kernel
theorem dX9_least_60 : decode cX9_least 60 = .ok (.getfield 12, 3) := by decide +kernel
theorem dX9_least_63 : decode cX9_least 63 = .ok (.invokevirtual 215, 3) := by decide +kernel
theorem dX9_least_66 : decode cX9_least 66 = .ok (.iload_n 1, 1) := by decide +kernel
theorem dX9_least_67 : decode cX9_least 67 = .ok (.isub, 1) := by decide +kernel
theorem dX9_least_68 : decode cX9_least 68 = .ok (.i2l, 1) := by decide +kernel
theorem dX9_least_69 : decode cX9_least 69 = .ok (.invokevirtual 157, 3) := by decide +kernel
theorem dX9_least_72 : decode cX9_least 72 = .ok (.iload_n 1, 1) := by decide +kernel
theorem dX9_least_73 : decode cX9_least 73 = .ok (.ireturn, 1) := by decide +kernel
set_option maxRecDepth 20000 in
theorem ggX9_bound_X2_readTold : GoodIn wsX9_bound wsX2_readTold := goodIn_r _ [17, 18, 19, 20, 21, 22, 23, 24, 25, 26, 27, 28, 29, 30, 31, 32, 33, 34, 35, 36, 37, 38, 39, 40, 16, 41, 42, 43, 44, 45, 46, 47, 48, 104, 105, 115, 116, 110, 111, 112, 113, 114] (by decide +kernel) (by decide +kernel)
set_option maxRecDepth 20000 in
theorem gX9_bound_X2_readTold : GoodIn wsX9_bound (wsV RX9 233 RX2 yX2_readTold wsX2_readTold) := goodIn_app (goodIn_of _ (by decide +kernel)) ggX9_bound_X2_readTold
set_option maxRecDepth 20000 in
theorem ggX9_bound_X7_clear : GoodIn wsX9_bound wsX7_clear := goodIn_r _ [52, 30, 115, 116] (by decide +kernel) (by decide +kernel)
set_option maxRecDepth 20000 in
theorem gX9_bound_X7_clear : GoodIn wsX9_bound (wsV RX9 92 RX7 yX7_clear wsX7_clear) := goodIn_app (goodIn_of _ (by decide +kernel)) ggX9_bound_X7_clear
set_option maxRecDepth 20000 in
theorem ggX9_bound_X6_readAll : GoodIn wsX9_bound wsX6_readAll := goodIn_r _ [57, 58, 59, 44, 45, 35, 46, 47, 48, 33, 34, 36, 37, 60, 61, 62, 56, 63, 64, 65, 66, 67, 68, 69, 70, 71, 72, 73, 74, 75, 76, 77, 78, 79, 80, 81, 82, 83, 84, 85, 86, 87, 88, 89, 90, 91, 92, 93, 94, 110, 111, 112, 113, 114, 106, 107, 108, 109] (by decide +kernel) (by decide +kernel)
set_option maxRecDepth 20000 in
theorem gX9_bound_X6_readAll : GoodIn wsX9_bound (wsV RX9 230 RX6 yX6_readAll wsX6_readAll) := goodIn_app (goodIn_of _ (by decide +kernel)) ggX9_bound_X6_readAll
theorem dX9_bound_0 : decode cX9_bound 0 = .ok (.aload_n 0, 1) := by decide +kernel
theorem dX9_bound_1 : decode cX9_bound 1 = .ok (.getfield 55, 3) := by decide +kernel
theorem dX9_bound_4 : decode cX9_bound 4 = .ok (.aload_n 0, 1) := by decide +kernel
theorem dX9_bound_5 : decode cX9_bound 5 = .ok (.getfield 34, 3) := by decide +kernel
theorem dX9_bound_8 : decode cX9_bound 8 = .ok (.aload_n 0, 1) := by decide +kernel
theorem dX9_bound_9 : decode cX9_bound 9 = .ok (.getfield 12, 3) := by decide +kernel
theorem dX9_bound_12 : decode cX9_bound 12 = .ok (.invokevirtual 233, 3) := by decide +kernel
theorem dX9_bound_15 : decode cX9_bound 15 = .ok (.istore_n 1, 1) := by decide +kernel
theorem dX9_bound_16 : decode cX9_bound 16 = .ok (.aload_n 0, 1) := by decide +kernel
theorem dX9_bound_17 : decode cX9_bound 17 = .ok (.getfield 34, 3) := by decide +kernel
theorem dX9_bound_20 : decode cX9_bound 20 = .ok (.invokevirtual 92, 3) := by decide +kernel
theorem dX9_bound_23 : decode cX9_bound 23 = .ok (.iload_n 1, 1) := by decide +kernel
theorem dX9_bound_24 : decode cX9_bound 24 = .ok (.iconst (-1), 1) := by decide +kernel
theorem dX9_bound_25 : decode cX9_bound 25 = .ok (.if_icmp .eq 7, 3) := by decide +kernel
theorem dX9_bound_28 : decode cX9_bound 28 = .ok (.iconst (-1), 1) := by decide +kernel
theorem dX9_bound_29 : decode cX9_bound 29 = .ok (.iload_n 1, 1) := by decide +kernel
theorem dX9_bound_30 : decode cX9_bound 30 = .ok (.isub, 1) := by decide +kernel
theorem dX9_bound_31 : decode cX9_bound 31 = .ok (.ireturn, 1) := by decide +kernel
theorem dX9_bound_32 : decode cX9_bound 32 = .ok (.aload_n 0, 1) := by decide +kernel
theorem dX9_bound_33 : decode cX9_bound 33 = .ok (.getfield 48, 3) := by decide +kernel
theorem dX9_bound_36 : decode cX9_bound 36 = .ok (.aload_n 0, 1) := by decide +kernel
theorem dX9_bound_37 : decode cX9_bound 37 = .ok (.getfield 12, 3) := by decide +kernel
theorem dX9_bound_40 : decode cX9_bound 40 = .ok (.invokevirtual 230, 3) := by decide +kernel
theorem dX9_bound_43 : decode cX9_bound 43 = .ok (.iconst 1, 1) := by decide +kernel
theorem dX9_bound_44 : decode cX9_bound 44 = .ok (.istore_n 2, 1) := by decide +kernel
theorem dX9_bound_45 : decode cX9_bound 45 = .ok (.iconst 0, 1) := by decide +kernel
theorem dX9_bound_46 : decode cX9_bound 46 = .ok (.istore_n 3, 1) := by decide +kernel
theorem dX9_bound_47 : decode cX9_bound 47 = .ok (.iconst 0, 1) := by decide +kernel
theorem dX9_bound_48 : decode cX9_bound 48 = .ok (.istore 4, 2) := by decide +kernel
theorem dX9_bound_50 : decode cX9_bound 50 = .ok (.iload 4, 2) := by decide +kernel
theorem dX9_bound_52 : decode cX9_bound 52 = .ok (.aload_n 0, 1) := by decide +kernel
theorem dX9_bound_53 : decode cX9_bound 53 = .ok (.getfield 55, 3) := by decide +kernel
theorem dX9_bound_56 : decode cX9_bound 56 = .ok (.getfield 237, 3) := by decide +kernel
theorem dX9_bound_59 : decode cX9_bound 59 = .ok (.if_icmp .ge 44, 3) := by decide +kernel
theorem dX9_bound_62 : decode cX9_bound 62 = .ok (.iload_n 2, 1) := by decide +kernel
theorem dX9_bound_63 : decode cX9_bound 63 = .ok (.aload_n 0, 1) := by decide +kernel
theorem dX9_bound_64 : decode cX9_bound 64 = .ok (.getfield 48, 3) := by decide +kernel
theorem dX9_bound_67 : decode cX9_bound 67 = .ok (.getfield 200, 3) := by decide +kernel
theorem dX9_bound_70 : decode cX9_bound 70 = .ok (.aload_n 0, 1) := by decide +kernel
theorem dX9_bound_71 : decode cX9_bound 71 = .ok (.getfield 55, 3) := by decide +kernel
theorem dX9_bound_74 : decode cX9_bound 74 = .ok (.getfield 238, 3) := by decide +kernel
theorem dX9_bound_77 : decode cX9_bound 77 = .ok (.iload 4, 2) := by decide +kernel
theorem dX9_bound_79 : decode cX9_bound 79 = .ok (.iaload, 1) := by decide +kernel
theorem dX9_bound_80 : decode cX9_bound 80 = .ok (.iaload, 1) := by decide +kernel
theorem dX9_bound_81 : decode cX9_bound 81 = .ok (.imul, 1) := by decide +kernel
theorem dX9_bound_82 : decode cX9_bound 82 = .ok (.istore_n 2, 1) := by decide +kernel
theorem dX9_bound_83 : decode cX9_bound 83 = .ok (.iload_n 3, 1) := by decide +kernel
theorem dX9_bound_84 : decode cX9_bound 84 = .ok (.aload_n 0, 1) := by decide +kernel
theorem dX9_bound_85 : decode cX9_bound 85 = .ok (.getfield 12, 3) := by decide +kernel
theorem dX9_bound_88 : decode cX9_bound 88 = .ok (.getfield 164, 3) := by decide +kernel
theorem dX9_bound_91 : decode cX9_bound 91 = .ok (.iload_n 2, 1) := by decide +kernel
theorem dX9_bound_92 : decode cX9_bound 92 = .ok (.invokestatic 240, 3) := by decide +kernel
theorem dX9_bound_95 : decode cX9_bound 95 = .ok (.iadd, 1) := by decide +kernel
theorem dX9_bound_96 : decode cX9_bound 96 = .ok (.istore_n 3, 1) := by decide +kernel
theorem dX9_bound_97 : decode cX9_bound 97 = .ok (.iinc 4 1, 3) := by decide +kernel
theorem dX9_bound_100 : decode cX9_bound 100 = .ok (.goto (-50), 3) := by decide +kernel
theorem dX9_bound_103 : decode cX9_bound 103 = .ok (.iload_n 3, 1) := by decide +kernel
theorem dX9_bound_104 : decode cX9_bound 104 = .ok (.ireturn, 1) := by decide +kernel
set_option maxRecDepth 20000 in
theorem ggX9_coded_X8_isProper : GoodIn wsX9_coded wsX8_isProper := goodIn_r _ [8, 9, 10, 11, 12, 7, 13, 14, 56, 57, 58, 59, 60] (by decide +kernel) (by decide +kernel)
set_option maxRecDepth 20000 in
theorem gX9_coded_X8_isProper : GoodIn wsX9_coded (wsV RX9 189 RX8 yX8_isProper wsX8_isProper) := goodIn_app (goodIn_of _ (by decide +kernel)) ggX9_coded_X8_isProper
set_option maxRecDepth 20000 in
theorem ggX9_coded_X8_hasColumn : GoodIn wsX9_coded wsX8_hasColumn := goodIn_r _ [13, 14, 56, 57, 58, 59, 60] (by decide +kernel) (by decide +kernel)
set_option maxRecDepth 20000 in
theorem gX9_coded_X8_hasColumn : GoodIn wsX9_coded (wsV RX9 115 RX8 yX8_hasColumn wsX8_hasColumn) := goodIn_app (goodIn_of _ (by decide +kernel)) ggX9_coded_X8_hasColumn
set_option maxRecDepth 20000 in
theorem ggX9_coded_X0_clear : GoodIn wsX9_coded wsX0_clear := goodIn_r _ [20, 21, 61, 62] (by decide +kernel) (by decide +kernel)
set_option maxRecDepth 20000 in
theorem gX9_coded_X0_clear : GoodIn wsX9_coded (wsV RX9 245 RX0 yX0_clear wsX0_clear) := goodIn_app (goodIn_of _ (by decide +kernel)) ggX9_coded_X0_clear
set_option maxRecDepth 20000 in
theorem ggX9_coded_X8_beginsRun : GoodIn wsX9_coded wsX8_beginsRun := goodIn_r _ [25, 26, 27, 28, 7, 29, 30, 31, 32, 33, 34, 56, 57, 58, 59, 60] (by decide +kernel) (by decide +kernel)
set_option maxRecDepth 20000 in
theorem gX9_coded_X8_beginsRun : GoodIn wsX9_coded (wsV RX9 196 RX8 yX8_beginsRun wsX8_beginsRun) := goodIn_app (goodIn_of _ (by decide +kernel)) ggX9_coded_X8_beginsRun
set_option maxRecDepth 20000 in
theorem ggX9_coded_X8_cell : GoodIn wsX9_coded wsX8_cell := goodIn_r _ [33, 34, 56, 57, 58, 59, 60] (by decide +kernel) (by decide +kernel)
set_option maxRecDepth 20000 in
theorem gX9_coded_X8_cell : GoodIn wsX9_coded (wsV RX9 246 RX8 yX8_cell wsX8_cell) := goodIn_app (goodIn_of _ (by decide +kernel)) ggX9_coded_X8_cell
set_option maxRecDepth 20000 in
theorem ggX9_coded_X0_add : GoodIn wsX9_coded wsX0_add := goodIn_r _ [39, 21, 40, 61, 62] (by decide +kernel) (by decide +kernel)
set_option maxRecDepth 20000 in
theorem gX9_coded_X0_add : GoodIn wsX9_coded (wsV RX9 249 RX0 yX0_add wsX0_add) := goodIn_app (goodIn_of _ (by decide +kernel)) ggX9_coded_X0_add
set_option maxRecDepth 20000 in
theorem ggX9_coded_X8_runsOf : GoodIn wsX9_coded wsX8_runsOf := goodIn_r _ [44, 45, 46, 23, 24, 7, 25, 26, 27, 28, 29, 30, 31, 32, 33, 34, 56, 57, 58, 59, 60] (by decide +kernel) (by decide +kernel)
set_option maxRecDepth 20000 in
theorem gX9_coded_X8_runsOf : GoodIn wsX9_coded (wsV RX9 206 RX8 yX8_runsOf wsX8_runsOf) := goodIn_app (goodIn_of _ (by decide +kernel)) ggX9_coded_X8_runsOf
theorem dX9_coded_0 : decode cX9_coded 0 = .ok (.aload_n 0, 1) := by decide +kernel
theorem dX9_coded_1 : decode cX9_coded 1 = .ok (.getfield 12, 3) := by decide +kernel
theorem dX9_coded_4 : decode cX9_coded 4 = .ok (.iload_n 1, 1) := by decide +kernel
theorem dX9_coded_5 : decode cX9_coded 5 = .ok (.invokevirtual 189, 3) := by decide +kernel
theorem dX9_coded_8 : decode cX9_coded 8 = .ok (.ifCond .ne 21, 3) := by decide +kernel
theorem dX9_coded_11 : decode cX9_coded 11 = .ok (.aload_n 0, 1) := by decide +kernel
theorem dX9_coded_12 : decode cX9_coded 12 = .ok (.getfield 12, 3) := by decide +kernel
theorem dX9_coded_15 : decode cX9_coded 15 = .ok (.iload_n 1, 1) := by decide +kernel
theorem dX9_coded_16 : decode cX9_coded 16 = .ok (.invokevirtual 115, 3) := by decide +kernel
theorem dX9_coded_19 : decode cX9_coded 19 = .ok (.ifCond .eq 8, 3) := by decide +kernel
theorem dX9_coded_22 : decode cX9_coded 22 = .ok (.bipush (-2), 2) := by decide +kernel
theorem dX9_coded_24 : decode cX9_coded 24 = .ok (.goto 4, 3) := by decide +kernel
theorem dX9_coded_27 : decode cX9_coded 27 = .ok (.iconst (-1), 1) := by decide +kernel
theorem dX9_coded_28 : decode cX9_coded 28 = .ok (.ireturn, 1) := by decide +kernel
theorem dX9_coded_29 : decode cX9_coded 29 = .ok (.aload_n 0, 1) := by decide +kernel
theorem dX9_coded_30 : decode cX9_coded 30 = .ok (.getfield 41, 3) := by decide +kernel
theorem dX9_coded_33 : decode cX9_coded 33 = .ok (.invokevirtual 245, 3) := by decide +kernel
theorem dX9_coded_36 : decode cX9_coded 36 = .ok (.iconst 0, 1) := by decide +kernel
theorem dX9_coded_37 : decode cX9_coded 37 = .ok (.istore_n 2, 1) := by decide +kernel
theorem dX9_coded_38 : decode cX9_coded 38 = .ok (.iconst 0, 1) := by decide +kernel
theorem dX9_coded_39 : decode cX9_coded 39 = .ok (.istore_n 3, 1) := by decide +kernel
theorem dX9_coded_40 : decode cX9_coded 40 = .ok (.iload_n 3, 1) := by decide +kernel
theorem dX9_coded_41 : decode cX9_coded 41 = .ok (.aload_n 0, 1) := by decide +kernel
theorem dX9_coded_42 : decode cX9_coded 42 = .ok (.getfield 12, 3) := by decide +kernel
theorem dX9_coded_45 : decode cX9_coded 45 = .ok (.getfield 164, 3) := by decide +kernel
theorem dX9_coded_48 : decode cX9_coded 48 = .ok (.if_icmp .ge 69, 3) := by decide +kernel
theorem dX9_coded_51 : decode cX9_coded 51 = .ok (.iload_n 3, 1) := by decide +kernel
theorem dX9_coded_52 : decode cX9_coded 52 = .ok (.iconst 1, 1) := by decide +kernel
theorem dX9_coded_53 : decode cX9_coded 53 = .ok (.iadd, 1) := by decide +kernel
theorem dX9_coded_54 : decode cX9_coded 54 = .ok (.aload_n 0, 1) := by decide +kernel
theorem dX9_coded_55 : decode cX9_coded 55 = .ok (.getfield 12, 3) := by decide +kernel
theorem dX9_coded_58 : decode cX9_coded 58 = .ok (.getfield 164, 3) := by decide +kernel
theorem dX9_coded_61 : decode cX9_coded 61 = .ok (.if_icmp .eq 17, 3) := by decide +kernel
theorem dX9_coded_64 : decode cX9_coded 64 = .ok (.aload_n 0, 1) := by decide +kernel
theorem dX9_coded_65 : decode cX9_coded 65 = .ok (.getfield 12, 3) := by decide +kernel
theorem dX9_coded_68 : decode cX9_coded 68 = .ok (.iload_n 1, 1) := by decide +kernel
theorem dX9_coded_69 : decode cX9_coded 69 = .ok (.iload_n 3, 1) := by decide +kernel
theorem dX9_coded_70 : decode cX9_coded 70 = .ok (.iconst 1, 1) := by decide +kernel
theorem dX9_coded_71 : decode cX9_coded 71 = .ok (.iadd, 1) := by decide +kernel
theorem dX9_coded_72 : decode cX9_coded 72 = .ok (.invokevirtual 196, 3) := by decide +kernel
theorem dX9_coded_75 : decode cX9_coded 75 = .ok (.ifCond .eq 36, 3) := by decide +kernel
theorem dX9_coded_78 : decode cX9_coded 78 = .ok (.aload_n 0, 1) := by decide +kernel
theorem dX9_coded_79 : decode cX9_coded 79 = .ok (.getfield 41, 3) := by decide +kernel
theorem dX9_coded_82 : decode cX9_coded 82 = .ok (.aload_n 0, 1) := by decide +kernel
theorem dX9_coded_83 : decode cX9_coded 83 = .ok (.getfield 12, 3) := by decide +kernel
theorem dX9_coded_86 : decode cX9_coded 86 = .ok (.iload_n 1, 1) := by decide +kernel
theorem dX9_coded_87 : decode cX9_coded 87 = .ok (.iload_n 3, 1) := by decide +kernel
theorem dX9_coded_88 : decode cX9_coded 88 = .ok (.invokevirtual 246, 3) := by decide +kernel
theorem dX9_coded_91 : decode cX9_coded 91 = .ok (.invokevirtual 249, 3) := by decide +kernel
theorem dX9_coded_94 : decode cX9_coded 94 = .ok (.aload_n 0, 1) := by decide +kernel
theorem dX9_coded_95 : decode cX9_coded 95 = .ok (.getfield 41, 3) := by decide +kernel
theorem dX9_coded_98 : decode cX9_coded 98 = .ok (.iload_n 3, 1) := by decide +kernel
theorem dX9_coded_99 : decode cX9_coded 99 = .ok (.iconst 1, 1) := by decide +kernel
theorem dX9_coded_100 : decode cX9_coded 100 = .ok (.iadd, 1) := by decide +kernel
theorem dX9_coded_101 : decode cX9_coded 101 = .ok (.iload_n 2, 1) := by decide +kernel
theorem dX9_coded_102 : decode cX9_coded 102 = .ok (.isub, 1) := by decide +kernel
theorem dX9_coded_103 : decode cX9_coded 103 = .ok (.i2l, 1) := by decide +kernel
theorem dX9_coded_104 : decode cX9_coded 104 = .ok (.invokevirtual 249, 3) := by decide +kernel
theorem dX9_coded_107 : decode cX9_coded 107 = .ok (.iload_n 3, 1) := by decide +kernel
theorem dX9_coded_108 : decode cX9_coded 108 = .ok (.iconst 1, 1) := by decide +kernel
theorem dX9_coded_109 : decode cX9_coded 109 = .ok (.iadd, 1) := by decide +kernel
theorem dX9_coded_110 : decode cX9_coded 110 = .ok (.istore_n 2, 1) := by decide +kernel
theorem dX9_coded_111 : decode cX9_coded 111 = .ok (.iinc 3 1, 3) := by decide +kernel
theorem dX9_coded_114 : decode cX9_coded 114 = .ok (.goto (-74), 3) := by decide +kernel
theorem dX9_coded_117 : decode cX9_coded 117 = .ok (.aload_n 0, 1) := by decide +kernel
theorem dX9_coded_118 : decode cX9_coded 118 = .ok (.getfield 12, 3) := by decide +kernel
theorem dX9_coded_121 : decode cX9_coded 121 = .ok (.iload_n 1, 1) := by decide +kernel
theorem dX9_coded_122 : decode cX9_coded 122 = .ok (.invokevirtual 206, 3) := by decide +kernel
theorem dX9_coded_125 : decode cX9_coded 125 = .ok (.ireturn, 1) := by decide +kernel
set_option maxRecDepth 20000 in
theorem ggX9_alike_X8_hasRow : GoodIn wsX9_alike wsX8_hasRow := goodIn_r _ [8, 9, 64, 65, 66, 67, 68] (by decide +kernel) (by decide +kernel)
set_option maxRecDepth 20000 in
theorem gX9_alike_X8_hasRow : GoodIn wsX9_alike (wsV RX9 218 RX8 yX8_hasRow wsX8_hasRow) := goodIn_app (goodIn_of _ (by decide +kernel)) ggX9_alike_X8_hasRow
set_option maxRecDepth 20000 in
theorem ggX9_alike_X8_isLikeInAll : GoodIn wsX9_alike wsX8_isLikeInAll := goodIn_r _ [13, 14, 15, 16, 17, 7, 18, 19, 20, 21, 22, 23, 24, 25, 26, 27, 28, 29, 30, 31, 32, 64, 65, 66, 67, 68] (by decide +kernel) (by decide +kernel)
set_option maxRecDepth 20000 in
theorem gX9_alike_X8_isLikeInAll : GoodIn wsX9_alike (wsV RX9 252 RX8 yX8_isLikeInAll wsX8_isLikeInAll) := goodIn_app (goodIn_of _ (by decide +kernel)) ggX9_alike_X8_isLikeInAll
set_option maxRecDepth 20000 in
theorem ggX9_alike_X0_tell : GoodIn wsX9_alike wsX0_tell := goodIn_r _ [37, 38, 39, 40, 36, 41, 42, 43, 44, 45, 46, 47, 69, 70] (by decide +kernel) (by decide +kernel)
set_option maxRecDepth 20000 in
theorem gX9_alike_X0_tell : GoodIn wsX9_alike (wsV RX9 157 RX0 yX0_tell wsX0_tell) := goodIn_app (goodIn_of _ (by decide +kernel)) ggX9_alike_X0_tell
set_option maxRecDepth 20000 in
theorem ggX9_alike_J6_bitCount_0f7a4 : GoodIn wsX9_alike wsJ6_bitCount_0f7a4 := goodIn_r _ [51, 52, 53, 54] (by decide +kernel) (by decide +kernel)
set_option maxRecDepth 20000 in
theorem gX9_alike_J6_bitCount_0f7a4 : GoodIn wsX9_alike (va_wsS RX9 178 yJ6_bitCount_0f7a4 wsJ6_bitCount_0f7a4) := goodIn_app (goodIn_of _ (by decide +kernel)) ggX9_alike_J6_bitCount_0f7a4
theorem dX9_alike_0 : decode cX9_alike 0 = .ok (.aload_n 0, 1) := by decide +kernel
theorem dX9_alike_1 : decode cX9_alike 1 = .ok (.getfield 12, 3) := by decide +kernel
theorem dX9_alike_4 : decode cX9_alike 4 = .ok (.iload_n 1, 1) := by decide +kernel
theorem dX9_alike_5 : decode cX9_alike 5 = .ok (.invokevirtual 218, 3) := by decide +kernel
theorem dX9_alike_8 : decode cX9_alike 8 = .ok (.ifCond .eq 13, 3) := by decide +kernel
theorem dX9_alike_11 : decode cX9_alike 11 = .ok (.iload_n 2, 1) := by decide +kernel
theorem dX9_alike_12 : decode cX9_alike 12 = .ok (.ifCond .lt 9, 3) := by decide +kernel
theorem dX9_alike_15 : decode cX9_alike 15 = .ok (.iload_n 2, 1) := by decide +kernel
theorem dX9_alike_16 : decode cX9_alike 16 = .ok (.bipush 63, 2) := by decide +kernel
theorem dX9_alike_18 : decode cX9_alike 18 = .ok (.if_icmp .le 5, 3) := by decide +kernel
theorem dX9_alike_21 : decode cX9_alike 21 = .ok (.iconst (-1), 1) := by decide +kernel
theorem dX9_alike_22 : decode cX9_alike 22 = .ok (.ireturn, 1) := by decide +kernel
theorem dX9_alike_23 : decode cX9_alike 23 = .ok (.iconst 0, 1) := by decide +kernel
theorem dX9_alike_24 : decode cX9_alike 24 = .ok (.istore_n 3, 1) := by decide +kernel
theorem dX9_alike_25 : decode cX9_alike 25 = .ok (.iconst 0, 1) := by decide +kernel
theorem dX9_alike_26 : decode cX9_alike 26 = .ok (.istore 4, 2) := by decide +kernel
theorem dX9_alike_28 : decode cX9_alike 28 = .ok (.iload 4, 2) := by decide +kernel
theorem dX9_alike_30 : decode cX9_alike 30 = .ok (.aload_n 0, 1) := by decide +kernel
theorem dX9_alike_31 : decode cX9_alike 31 = .ok (.getfield 12, 3) := by decide +kernel
theorem dX9_alike_34 : decode cX9_alike 34 = .ok (.getfield 164, 3) := by decide +kernel
theorem dX9_alike_37 : decode cX9_alike 37 = .ok (.if_icmp .ge 30, 3) := by decide +kernel
theorem dX9_alike_40 : decode cX9_alike 40 = .ok (.aload_n 0, 1) := by decide +kernel
theorem dX9_alike_41 : decode cX9_alike 41 = .ok (.getfield 12, 3) := by decide +kernel
theorem dX9_alike_44 : decode cX9_alike 44 = .ok (.iload_n 2, 1) := by decide +kernel
theorem dX9_alike_45 : decode cX9_alike 45 = .ok (.iload_n 1, 1) := by decide +kernel
theorem dX9_alike_46 : decode cX9_alike 46 = .ok (.iload 4, 2) := by decide +kernel
theorem dX9_alike_48 : decode cX9_alike 48 = .ok (.invokevirtual 252, 3) := by decide +kernel
theorem dX9_alike_51 : decode cX9_alike 51 = .ok (.ifCond .eq 10, 3) := by decide +kernel
theorem dX9_alike_54 : decode cX9_alike 54 = .ok (.iload_n 3, 1) := by decide +kernel
theorem dX9_alike_55 : decode cX9_alike 55 = .ok (.iconst 1, 1) := by decide +kernel
theorem dX9_alike_56 : decode cX9_alike 56 = .ok (.iload 4, 2) := by decide +kernel
theorem dX9_alike_58 : decode cX9_alike 58 = .ok (.ishl, 1) := by decide +kernel
theorem dX9_alike_59 : decode cX9_alike 59 = .ok (.ior, 1) := by decide +kernel
theorem dX9_alike_60 : decode cX9_alike 60 = .ok (.istore_n 3, 1) := by decide +kernel
theorem dX9_alike_61 : decode cX9_alike 61 = .ok (.iinc 4 1, 3) := by decide +kernel
theorem dX9_alike_64 : decode cX9_alike 64 = .ok (.goto (-36), 3) := by decide +kernel
theorem dX9_alike_67 : decode cX9_alike 67 = .ok (.aload_n 0, 1) := by decide +kernel
theorem dX9_alike_68 : decode cX9_alike 68 = .ok (.getfield 41, 3) := by decide +kernel
theorem dX9_alike_71 : decode cX9_alike 71 = .ok (.iload_n 3, 1) := by decide +kernel
theorem dX9_alike_72 : decode cX9_alike 72 = .ok (.i2l, 1) := by decide +kernel
theorem dX9_alike_73 : decode cX9_alike 73 = .ok (.invokevirtual 157, 3) := by decide +kernel
theorem dX9_alike_76 : decode cX9_alike 76 = .ok (.iload_n 3, 1) := by decide +kernel
theorem dX9_alike_77 : decode cX9_alike 77 = .ok (.invokestatic 178, 3) := by decide +kernel
theorem dX9_alike_80 : decode cX9_alike 80 = .ok (.ireturn, 1) := by decide +kernel
set_option maxRecDepth 20000 in
theorem ggX9_sorts_X2_readTold : GoodIn wsX9_sorts wsX2_readTold := goodIn_r _ [12, 13, 14, 15, 16, 17, 18, 19, 20, 21, 22, 23, 24, 25, 26, 27, 28, 29, 30, 31, 32, 33, 34, 35, 11, 36, 37, 38, 39, 40, 41, 42, 43, 207, 208, 209, 210, 211, 212, 213, 214, 215] (by decide +kernel) (by decide +kernel)
set_option maxRecDepth 20000 in
theorem gX9_sorts_X2_readTold : GoodIn wsX9_sorts (wsV RX9 233 RX2 yX2_readTold wsX2_readTold) := goodIn_app (goodIn_of _ (by decide +kernel)) ggX9_sorts_X2_readTold
set_option maxRecDepth 20000 in
theorem ggX9_sorts_X7_clear : GoodIn wsX9_sorts wsX7_clear := goodIn_r _ [47, 25, 209, 210] (by decide +kernel) (by decide +kernel)
set_option maxRecDepth 20000 in
theorem gX9_sorts_X7_clear : GoodIn wsX9_sorts (wsV RX9 92 RX7 yX7_clear wsX7_clear) := goodIn_app (goodIn_of _ (by decide +kernel)) ggX9_sorts_X7_clear
set_option maxRecDepth 20000 in
theorem ggX9_sorts_X5_note : GoodIn wsX9_sorts wsX5_note := goodIn_r _ [52, 53, 54, 55, 56, 57, 30, 58, 42, 59, 60, 61, 62, 63, 64, 32, 65, 216, 217, 218, 211, 212, 213, 214, 215] (by decide +kernel) (by decide +kernel)
set_option maxRecDepth 20000 in
theorem gX9_sorts_X5_note : GoodIn wsX9_sorts (wsV RX9 81 RX5 yX5_note wsX5_note) := goodIn_app (goodIn_of _ (by decide +kernel)) ggX9_sorts_X5_note
set_option maxRecDepth 20000 in
theorem ggX9_sorts_X6_readAll : GoodIn wsX9_sorts wsX6_readAll := goodIn_r _ [70, 71, 72, 39, 40, 30, 41, 42, 43, 28, 29, 31, 32, 73, 74, 75, 69, 76, 77, 78, 79, 80, 81, 82, 83, 84, 85, 86, 64, 87, 88, 89, 90, 91, 92, 93, 94, 95, 96, 97, 98, 99, 100, 101, 102, 103, 104, 105, 106, 211, 212, 213, 214, 215, 219, 220, 221, 222] (by decide +kernel) (by decide +kernel)
set_option maxRecDepth 20000 in
theorem gX9_sorts_X6_readAll : GoodIn wsX9_sorts (wsV RX9 230 RX6 yX6_readAll wsX6_readAll) := goodIn_app (goodIn_of _ (by decide +kernel)) ggX9_sorts_X6_readAll
set_option maxRecDepth 20000 in
theorem ggX9_sorts_X4_read : GoodIn wsX9_sorts wsX4_read := goodIn_r _ [111, 112, 113, 114, 115, 116, 117, 118, 119, 30, 120, 32, 121, 39, 40, 41, 42, 43, 28, 29, 31, 122, 123, 124, 125, 126, 127, 128, 129, 130, 131, 132, 133, 134, 135, 136, 137, 84, 85, 86, 64, 211, 212, 213, 214, 215, 223, 224, 225, 226, 227, 228, 229, 230] (by decide +kernel) (by decide +kernel)
set_option maxRecDepth 20000 in
theorem gX9_sorts_X4_read : GoodIn wsX9_sorts (wsV RX9 255 RX4 yX4_read wsX4_read) := goodIn_app (goodIn_of _ (by decide +kernel)) ggX9_sorts_X4_read
set_option maxRecDepth 20000 in
theorem ggX9_sorts_X4_runsOfLine : GoodIn wsX9_sorts wsX4_runsOfLine := goodIn_r _ [141, 113, 114, 142, 143, 144, 110, 145, 116, 115, 223, 224, 225, 226, 227, 228, 229, 230] (by decide +kernel) (by decide +kernel)
set_option maxRecDepth 20000 in
theorem gX9_sorts_X4_runsOfLine : GoodIn wsX9_sorts (wsV RX9 258 RX4 yX4_runsOfLine wsX4_runsOfLine) := goodIn_app (goodIn_of _ (by decide +kernel)) ggX9_sorts_X4_runsOfLine
set_option maxRecDepth 20000 in
theorem ggX9_sorts_X4_sortBy : GoodIn wsX9_sorts wsX4_sortBy := goodIn_r _ [149, 113, 150, 115, 151, 152, 110, 153, 154, 155, 156, 157, 158, 69, 159, 82, 223, 224, 225, 226, 227, 228, 229, 230, 207, 208, 219, 220, 221, 222] (by decide +kernel) (by decide +kernel)
set_option maxRecDepth 20000 in
theorem gX9_sorts_X4_sortBy : GoodIn wsX9_sorts (wsV RX9 261 RX4 yX4_sortBy wsX4_sortBy) := goodIn_app (goodIn_of _ (by decide +kernel)) ggX9_sorts_X4_sortBy
set_option maxRecDepth 20000 in
theorem ggX9_sorts_X0_tell_ : GoodIn wsX9_sorts wsX0_tell_ := goodIn_r _ [164, 165, 166, 167, 163, 168, 169, 170, 171, 172, 173, 174, 175, 176, 177, 178, 231, 232] (by decide +kernel) (by decide +kernel)
set_option maxRecDepth 20000 in
theorem gX9_sorts_X0_tell_ : GoodIn wsX9_sorts (wsV RX9 212 RX0 yX0_tell_ wsX0_tell_) := goodIn_app (goodIn_of _ (by decide +kernel)) ggX9_sorts_X0_tell_
set_option maxRecDepth 20000 in
theorem ggX9_sorts_X5_hold : GoodIn wsX9_sorts wsX5_hold := goodIn_r _ [182, 54, 183, 184, 185, 186, 187, 216, 217, 218] (by decide +kernel) (by decide +kernel)
set_option maxRecDepth 20000 in
theorem gX9_sorts_X5_hold : GoodIn wsX9_sorts (wsV RX9 89 RX5 yX5_hold wsX5_hold) := goodIn_app (goodIn_of _ (by decide +kernel)) ggX9_sorts_X5_hold
set_option maxRecDepth 20000 in
theorem ggX9_sorts_X4_carryOut : GoodIn wsX9_sorts wsX4_carryOut := goodIn_r _ [191, 192, 113, 193, 194, 115, 195, 60, 61, 62, 196, 197, 211, 212, 213, 214, 215, 223, 224, 225, 226, 227, 228, 229, 230] (by decide +kernel) (by decide +kernel)
set_option maxRecDepth 20000 in
theorem gX9_sorts_X4_carryOut : GoodIn wsX9_sorts (wsV RX9 265 RX4 yX4_carryOut wsX4_carryOut) := goodIn_app (goodIn_of _ (by decide +kernel)) ggX9_sorts_X4_carryOut
theorem dX9_sorts_0 : decode cX9_sorts 0 = .ok (.aload_n 0, 1) := by decide +kernel
theorem dX9_sorts_1 : decode cX9_sorts 1 = .ok (.getfield 55, 3) := by decide +kernel
theorem dX9_sorts_4 : decode cX9_sorts 4 = .ok (.aload_n 0, 1) := by decide +kernel
theorem dX9_sorts_5 : decode cX9_sorts 5 = .ok (.getfield 34, 3) := by decide +kernel
theorem dX9_sorts_8 : decode cX9_sorts 8 = .ok (.aload_n 0, 1) := by decide +kernel
theorem dX9_sorts_9 : decode cX9_sorts 9 = .ok (.getfield 12, 3) := by decide +kernel
theorem dX9_sorts_12 : decode cX9_sorts 12 = .ok (.invokevirtual 233, 3) := by decide +kernel
theorem dX9_sorts_15 : decode cX9_sorts 15 = .ok (.istore_n 2, 1) := by decide +kernel
theorem dX9_sorts_16 : decode cX9_sorts 16 = .ok (.aload_n 0, 1) := by decide +kernel
theorem dX9_sorts_17 : decode cX9_sorts 17 = .ok (.getfield 34, 3) := by decide +kernel
theorem dX9_sorts_20 : decode cX9_sorts 20 = .ok (.invokevirtual 92, 3) := by decide +kernel
theorem dX9_sorts_23 : decode cX9_sorts 23 = .ok (.iload_n 2, 1) := by decide +kernel
theorem dX9_sorts_24 : decode cX9_sorts 24 = .ok (.iconst (-1), 1) := by decide +kernel
theorem dX9_sorts_25 : decode cX9_sorts 25 = .ok (.if_icmp .eq 7, 3) := by decide +kernel
theorem dX9_sorts_28 : decode cX9_sorts 28 = .ok (.iconst (-1), 1) := by decide +kernel
theorem dX9_sorts_29 : decode cX9_sorts 29 = .ok (.iload_n 2, 1) := by decide +kernel
theorem dX9_sorts_30 : decode cX9_sorts 30 = .ok (.isub, 1) := by decide +kernel
theorem dX9_sorts_31 : decode cX9_sorts 31 = .ok (.ireturn, 1) := by decide +kernel
theorem dX9_sorts_32 : decode cX9_sorts 32 = .ok (.aload_n 0, 1) := by decide +kernel
theorem dX9_sorts_33 : decode cX9_sorts 33 = .ok (.getfield 19, 3) := by decide +kernel
theorem dX9_sorts_36 : decode cX9_sorts 36 = .ok (.aload_n 0, 1) := by decide +kernel
theorem dX9_sorts_37 : decode cX9_sorts 37 = .ok (.getfield 12, 3) := by decide +kernel
theorem dX9_sorts_40 : decode cX9_sorts 40 = .ok (.invokevirtual 81, 3) := by decide +kernel
theorem dX9_sorts_43 : decode cX9_sorts 43 = .ok (.aload_n 0, 1) := by decide +kernel
theorem dX9_sorts_44 : decode cX9_sorts 44 = .ok (.getfield 48, 3) := by decide +kernel
theorem dX9_sorts_47 : decode cX9_sorts 47 = .ok (.aload_n 0, 1) := by decide +kernel
theorem dX9_sorts_48 : decode cX9_sorts 48 = .ok (.getfield 12, 3) := by decide +kernel
theorem dX9_sorts_51 : decode cX9_sorts 51 = .ok (.invokevirtual 230, 3) := by decide +kernel
theorem dX9_sorts_54 : decode cX9_sorts 54 = .ok (.aload_n 0, 1) := by decide +kernel
theorem dX9_sorts_55 : decode cX9_sorts 55 = .ok (.getfield 62, 3) := by decide +kernel
theorem dX9_sorts_58 : decode cX9_sorts 58 = .ok (.aload_n 0, 1) := by decide +kernel
theorem dX9_sorts_59 : decode cX9_sorts 59 = .ok (.getfield 12, 3) := by decide +kernel
theorem dX9_sorts_62 : decode cX9_sorts 62 = .ok (.invokevirtual 255, 3) := by decide +kernel
theorem dX9_sorts_65 : decode cX9_sorts 65 = .ok (.aload_n 0, 1) := by decide +kernel
theorem dX9_sorts_66 : decode cX9_sorts 66 = .ok (.getfield 62, 3) := by decide +kernel
theorem dX9_sorts_69 : decode cX9_sorts 69 = .ok (.invokevirtual 258, 3) := by decide +kernel
theorem dX9_sorts_72 : decode cX9_sorts 72 = .ok (.istore_n 3, 1) := by decide +kernel
theorem dX9_sorts_73 : decode cX9_sorts 73 = .ok (.aload_n 0, 1) := by decide +kernel
theorem dX9_sorts_74 : decode cX9_sorts 74 = .ok (.getfield 62, 3) := by decide +kernel
theorem dX9_sorts_77 : decode cX9_sorts 77 = .ok (.aload_n 0, 1) := by decide +kernel
theorem dX9_sorts_78 : decode cX9_sorts 78 = .ok (.getfield 55, 3) := by decide +kernel
theorem dX9_sorts_81 : decode cX9_sorts 81 = .ok (.aload_n 0, 1) := by decide +kernel
theorem dX9_sorts_82 : decode cX9_sorts 82 = .ok (.getfield 48, 3) := by decide +kernel
theorem dX9_sorts_85 : decode cX9_sorts 85 = .ok (.iload_n 1, 1) := by decide +kernel
theorem dX9_sorts_86 : decode cX9_sorts 86 = .ok (.invokevirtual 261, 3) := by decide +kernel
theorem dX9_sorts_89 : decode cX9_sorts 89 = .ok (.aload_n 0, 1) := by decide +kernel
theorem dX9_sorts_90 : decode cX9_sorts 90 = .ok (.getfield 41, 3) := by decide +kernel
theorem dX9_sorts_93 : decode cX9_sorts 93 = .ok (.iload_n 3, 1) := by decide +kernel
theorem dX9_sorts_94 : decode cX9_sorts 94 = .ok (.i2l, 1) := by decide +kernel
theorem dX9_sorts_95 : decode cX9_sorts 95 = .ok (.aload_n 0, 1) := by decide +kernel
theorem dX9_sorts_96 : decode cX9_sorts 96 = .ok (.getfield 62, 3) := by decide +kernel
theorem dX9_sorts_99 : decode cX9_sorts 99 = .ok (.invokevirtual 258, 3) := by decide +kernel
theorem dX9_sorts_102 : decode cX9_sorts 102 = .ok (.i2l, 1) := by decide +kernel
theorem dX9_sorts_103 : decode cX9_sorts 103 = .ok (.invokevirtual 212, 3) := by decide +kernel
theorem dX9_sorts_106 : decode cX9_sorts 106 = .ok (.aload_n 0, 1) := by decide +kernel
theorem dX9_sorts_107 : decode cX9_sorts 107 = .ok (.getfield 19, 3) := by decide +kernel
theorem dX9_sorts_110 : decode cX9_sorts 110 = .ok (.invokevirtual 89, 3) := by decide +kernel
theorem dX9_sorts_113 : decode cX9_sorts 113 = .ok (.aload_n 0, 1) := by decide +kernel
theorem dX9_sorts_114 : decode cX9_sorts 114 = .ok (.getfield 62, 3) := by decide +kernel
theorem dX9_sorts_117 : decode cX9_sorts 117 = .ok (.aload_n 0, 1) := by decide +kernel
theorem dX9_sorts_118 : decode cX9_sorts 118 = .ok (.getfield 12, 3) := by decide +kernel
theorem dX9_sorts_121 : decode cX9_sorts 121 = .ok (.invokevirtual 265, 3) := by decide +kernel
theorem dX9_sorts_124 : decode cX9_sorts 124 = .ok (.ireturn, 1) := by decide +kernel
set_option maxRecDepth 20000 in
theorem ggX9_fewest_X2_readProper : GoodIn wsX9_fewest wsX2_readProper := goodIn_r _ [9, 10, 11, 12, 13, 14, 8, 15, 16, 17, 18, 19, 20, 21, 22, 23, 24, 25, 26, 27, 102, 103, 104, 105, 106, 107, 108] (by decide +kernel) (by decide +kernel)
set_option maxRecDepth 20000 in
theorem gX9_fewest_X2_readProper : GoodIn wsX9_fewest (wsV RX9 269 RX2 yX2_readProper wsX2_readProper) := goodIn_app (goodIn_of _ (by decide +kernel)) ggX9_fewest_X2_readProper
set_option maxRecDepth 20000 in
theorem ggX9_fewest_X6_readAll : GoodIn wsX9_fewest wsX6_readAll := goodIn_r _ [32, 33, 34, 18, 19, 20, 21, 22, 23, 24, 25, 26, 27, 35, 36, 37, 31, 38, 39, 40, 41, 42, 43, 44, 45, 46, 47, 48, 49, 50, 51, 52, 53, 54, 55, 56, 57, 58, 59, 60, 61, 62, 63, 64, 65, 66, 67, 68, 69, 104, 105, 106, 107, 108, 109, 110, 111, 112] (by decide +kernel) (by decide +kernel)
set_option maxRecDepth 20000 in
theorem gX9_fewest_X6_readAll : GoodIn wsX9_fewest (wsV RX9 230 RX6 yX6_readAll wsX6_readAll) := goodIn_app (goodIn_of _ (by decide +kernel)) ggX9_fewest_X6_readAll
set_option maxRecDepth 20000 in
theorem ggX9_fewest_X2_sortByFewest : GoodIn wsX9_fewest wsX2_sortByFewest := goodIn_r _ [73, 10, 16, 74, 102, 103, 109, 110, 111, 112] (by decide +kernel) (by decide +kernel)
set_option maxRecDepth 20000 in
theorem gX9_fewest_X2_sortByFewest : GoodIn wsX9_fewest (wsV RX9 272 RX2 yX2_sortByFewest wsX2_sortByFewest) := goodIn_app (goodIn_of _ (by decide +kernel)) ggX9_fewest_X2_sortByFewest
set_option maxRecDepth 20000 in
theorem ggX9_fewest_X9_tellOrder : GoodIn wsX9_fewest wsX9_tellOrder := goodIn_r _ [79, 80, 1, 4, 81, 82, 83, 84, 85, 86, 87, 88, 89, 90, 91, 92, 93, 94, 95, 96, 97, 98, 99, 100, 101, 102, 103, 113, 114] (by decide +kernel) (by decide +kernel)
set_option maxRecDepth 20000 in
theorem gX9_fewest_X9_tellOrder : GoodIn wsX9_fewest (wsV RX9 276 RX9 yX9_tellOrder wsX9_tellOrder) := goodIn_app (goodIn_of _ (by decide +kernel)) ggX9_fewest_X9_tellOrder
theorem dX9_fewest_0 : decode cX9_fewest 0 = .ok (.aload_n 0, 1) := by decide +kernel
theorem dX9_fewest_1 : decode cX9_fewest 1 = .ok (.getfield 55, 3) := by decide +kernel
theorem dX9_fewest_4 : decode cX9_fewest 4 = .ok (.aload_n 0, 1) := by decide +kernel
theorem dX9_fewest_5 : decode cX9_fewest 5 = .ok (.getfield 12, 3) := by decide +kernel
theorem dX9_fewest_8 : decode cX9_fewest 8 = .ok (.invokevirtual 269, 3) := by decide +kernel
theorem dX9_fewest_11 : decode cX9_fewest 11 = .ok (.aload_n 0, 1) := by decide +kernel
theorem dX9_fewest_12 : decode cX9_fewest 12 = .ok (.getfield 48, 3) := by decide +kernel
theorem dX9_fewest_15 : decode cX9_fewest 15 = .ok (.aload_n 0, 1) := by decide +kernel
theorem dX9_fewest_16 : decode cX9_fewest 16 = .ok (.getfield 12, 3) := by decide +kernel
theorem dX9_fewest_19 : decode cX9_fewest 19 = .ok (.invokevirtual 230, 3) := by decide +kernel
theorem dX9_fewest_22 : decode cX9_fewest 22 = .ok (.aload_n 0, 1) := by decide +kernel
theorem dX9_fewest_23 : decode cX9_fewest 23 = .ok (.getfield 55, 3) := by decide +kernel
theorem dX9_fewest_26 : decode cX9_fewest 26 = .ok (.aload_n 0, 1) := by decide +kernel
theorem dX9_fewest_27 : decode cX9_fewest 27 = .ok (.getfield 48, 3) := by decide +kernel
theorem dX9_fewest_30 : decode cX9_fewest 30 = .ok (.invokevirtual 272, 3) := by decide +kernel
theorem dX9_fewest_33 : decode cX9_fewest 33 = .ok (.aload_n 0, 1) := by decide +kernel
theorem dX9_fewest_34 : decode cX9_fewest 34 = .ok (.invokevirtual 276, 3) := by decide +kernel
theorem dX9_fewest_37 : decode cX9_fewest 37 = .ok (.aload_n 0, 1) := by decide +kernel
theorem dX9_fewest_38 : decode cX9_fewest 38 = .ok (.getfield 55, 3) := by decide +kernel
theorem dX9_fewest_41 : decode cX9_fewest 41 = .ok (.getfield 237, 3) := by decide +kernel
theorem dX9_fewest_44 : decode cX9_fewest 44 = .ok (.ireturn, 1) := by decide +kernel
set_option maxRecDepth 20000 in
theorem ggX9_tellOrder_X0_clear : GoodIn wsX9_tellOrder wsX0_clear := goodIn_r _ [9, 10, 27, 28] (by decide +kernel) (by decide +kernel)
set_option maxRecDepth 20000 in
theorem gX9_tellOrder_X0_clear : GoodIn wsX9_tellOrder (wsV RX9 245 RX0 yX0_clear wsX0_clear) := goodIn_app (goodIn_of _ (by decide +kernel)) ggX9_tellOrder_X0_clear
set_option maxRecDepth 20000 in
theorem ggX9_tellOrder_X0_add : GoodIn wsX9_tellOrder wsX0_add := goodIn_r _ [14, 10, 15, 27, 28] (by decide +kernel) (by decide +kernel)
