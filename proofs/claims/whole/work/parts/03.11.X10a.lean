set_option maxRecDepth 20000 in
theorem ggX10_init_X10_layTable : GoodIn wsX10_init wsX10_layTable := goodIn_r _ [28, 5, 10, 29, 30, 31, 27, 32, 33, 34, 35, 36, 37, 38, 39, 40, 41, 42, 43, 44, 45, 46, 47, 48, 49, 50, 51, 52, 53, 54, 55, 56, 57, 58, 59, 60, 61] (by decide +kernel) (by decide +kernel)
set_option maxRecDepth 20000 in
theorem gX10_init_X10_layTable : GoodIn wsX10_init (wsV RX10 63 RX10 yX10_layTable wsX10_layTable) := goodIn_app (goodIn_of _ (by decide +kernel)) ggX10_init_X10_layTable
theorem dX10_init_0 : decode cX10_init 0 = .ok (.aload_n 0, 1) := by decide +kernel
theorem dX10_init_1 : decode cX10_init 1 = .ok (.invokespecial 5, 3) := by decide +kernel
theorem dX10_init_4 : decode cX10_init 4 = .ok (.aload_n 0, 1) := by decide +kernel
theorem dX10_init_5 : decode cX10_init 5 = .ok (.bipush 120, 2) := by decide +kernel
theorem dX10_init_7 : decode cX10_init 7 = .ok (.newarray .long, 2) := by decide +kernel
theorem dX10_init_9 : decode cX10_init 9 = .ok (.putfield 11, 3) := by decide +kernel
theorem dX10_init_12 : decode cX10_init 12 = .ok (.aload_n 0, 1) := by decide +kernel
theorem dX10_init_13 : decode cX10_init 13 = .ok (.bipush 80, 2) := by decide +kernel
theorem dX10_init_15 : decode cX10_init 15 = .ok (.newarray .byte, 2) := by decide +kernel
theorem dX10_init_17 : decode cX10_init 17 = .ok (.putfield 15, 3) := by decide +kernel
theorem dX10_init_20 : decode cX10_init 20 = .ok (.aload_n 0, 1) := by decide +kernel
theorem dX10_init_21 : decode cX10_init 21 = .ok (.bipush 64, 2) := by decide +kernel
theorem dX10_init_23 : decode cX10_init 23 = .ok (.newarray .long, 2) := by decide +kernel
theorem dX10_init_25 : decode cX10_init 25 = .ok (.putfield 19, 3) := by decide +kernel
theorem dX10_init_28 : decode cX10_init 28 = .ok (.aload_n 0, 1) := by decide +kernel
theorem dX10_init_29 : decode cX10_init 29 = .ok (.sipush 480, 3) := by decide +kernel
theorem dX10_init_32 : decode cX10_init 32 = .ok (.newarray .int, 2) := by decide +kernel
theorem dX10_init_34 : decode cX10_init 34 = .ok (.putfield 22, 3) := by decide +kernel
theorem dX10_init_37 : decode cX10_init 37 = .ok (.aload_n 0, 1) := by decide +kernel
theorem dX10_init_38 : decode cX10_init 38 = .ok (.bipush 96, 2) := by decide +kernel
theorem dX10_init_40 : decode cX10_init 40 = .ok (.newarray .int, 2) := by decide +kernel
theorem dX10_init_42 : decode cX10_init 42 = .ok (.putfield 26, 3) := by decide +kernel
theorem dX10_init_45 : decode cX10_init 45 = .ok (.aload_n 0, 1) := by decide +kernel
theorem dX10_init_46 : decode cX10_init 46 = .ok (.bipush 6, 2) := by decide +kernel
theorem dX10_init_48 : decode cX10_init 48 = .ok (.newarray .int, 2) := by decide +kernel
theorem dX10_init_50 : decode cX10_init 50 = .ok (.putfield 29, 3) := by decide +kernel
theorem dX10_init_53 : decode cX10_init 53 = .ok (.aload_n 0, 1) := by decide +kernel
theorem dX10_init_54 : decode cX10_init 54 = .ok (.bipush 6, 2) := by decide +kernel
theorem dX10_init_56 : decode cX10_init 56 = .ok (.newarray .int, 2) := by decide +kernel
theorem dX10_init_58 : decode cX10_init 58 = .ok (.putfield 32, 3) := by decide +kernel
theorem dX10_init_61 : decode cX10_init 61 = .ok (.aload_n 0, 1) := by decide +kernel
theorem dX10_init_62 : decode cX10_init 62 = .ok (.bipush 16, 2) := by decide +kernel
theorem dX10_init_64 : decode cX10_init 64 = .ok (.newarray .int, 2) := by decide +kernel
theorem dX10_init_66 : decode cX10_init 66 = .ok (.putfield 35, 3) := by decide +kernel
theorem dX10_init_69 : decode cX10_init 69 = .ok (.aload_n 0, 1) := by decide +kernel
theorem dX10_init_70 : decode cX10_init 70 = .ok (.bipush 6, 2) := by decide +kernel
theorem dX10_init_72 : decode cX10_init 72 = .ok (.newarray .int, 2) := by decide +kernel
theorem dX10_init_74 : decode cX10_init 74 = .ok (.putfield 38, 3) := by decide +kernel
theorem dX10_init_77 : decode cX10_init 77 = .ok (.aload_n 0, 1) := by decide +kernel
theorem dX10_init_78 : decode cX10_init 78 = .ok (.bipush 120, 2) := by decide +kernel
theorem dX10_init_80 : decode cX10_init 80 = .ok (.newarray .long, 2) := by decide +kernel
theorem dX10_init_82 : decode cX10_init 82 = .ok (.putfield 41, 3) := by decide +kernel
theorem dX10_init_85 : decode cX10_init 85 = .ok (.aload_n 0, 1) := by decide +kernel
theorem dX10_init_86 : decode cX10_init 86 = .ok (.bipush 6, 2) := by decide +kernel
theorem dX10_init_88 : decode cX10_init 88 = .ok (.newarray .int, 2) := by decide +kernel
theorem dX10_init_90 : decode cX10_init 90 = .ok (.putfield 44, 3) := by decide +kernel
theorem dX10_init_93 : decode cX10_init 93 = .ok (.aload_n 0, 1) := by decide +kernel
theorem dX10_init_94 : decode cX10_init 94 = .ok (.bipush 16, 2) := by decide +kernel
theorem dX10_init_96 : decode cX10_init 96 = .ok (.newarray .int, 2) := by decide +kernel
theorem dX10_init_98 : decode cX10_init 98 = .ok (.putfield 47, 3) := by decide +kernel
theorem dX10_init_101 : decode cX10_init 101 = .ok (.aload_n 0, 1) := by decide +kernel
theorem dX10_init_102 : decode cX10_init 102 = .ok (.sipush 960, 3) := by decide +kernel
theorem dX10_init_105 : decode cX10_init 105 = .ok (.newarray .long, 2) := by decide +kernel
theorem dX10_init_107 : decode cX10_init 107 = .ok (.putfield 50, 3) := by decide +kernel
theorem dX10_init_110 : decode cX10_init 110 = .ok (.aload_n 0, 1) := by decide +kernel
theorem dX10_init_111 : decode cX10_init 111 = .ok (.bipush 120, 2) := by decide +kernel
theorem dX10_init_113 : decode cX10_init 113 = .ok (.newarray .long, 2) := by decide +kernel
theorem dX10_init_115 : decode cX10_init 115 = .ok (.putfield 53, 3) := by decide +kernel
theorem dX10_init_118 : decode cX10_init 118 = .ok (.aload_n 0, 1) := by decide +kernel
theorem dX10_init_119 : decode cX10_init 119 = .ok (.sipush 240, 3) := by decide +kernel
theorem dX10_init_122 : decode cX10_init 122 = .ok (.newarray .long, 2) := by decide +kernel
theorem dX10_init_124 : decode cX10_init 124 = .ok (.putfield 56, 3) := by decide +kernel
theorem dX10_init_127 : decode cX10_init 127 = .ok (.aload_n 0, 1) := by decide +kernel
theorem dX10_init_128 : decode cX10_init 128 = .ok (.iconst 2, 1) := by decide +kernel
theorem dX10_init_129 : decode cX10_init 129 = .ok (.newarray .boolean, 2) := by decide +kernel
theorem dX10_init_131 : decode cX10_init 131 = .ok (.putfield 59, 3) := by decide +kernel
theorem dX10_init_134 : decode cX10_init 134 = .ok (.aload_n 0, 1) := by decide +kernel
theorem dX10_init_135 : decode cX10_init 135 = .ok (.iconst 0, 1) := by decide +kernel
theorem dX10_init_136 : decode cX10_init 136 = .ok (.iconst 0, 1) := by decide +kernel
theorem dX10_init_137 : decode cX10_init 137 = .ok (.invokevirtual 63, 3) := by decide +kernel
theorem dX10_init_140 : decode cX10_init 140 = .ok (.return_, 1) := by decide +kernel
theorem dX10_thrown_0 : decode cX10_thrown 0 = .ok (.aload_n 0, 1) := by decide +kernel
theorem dX10_thrown_1 : decode cX10_thrown 1 = .ok (.getfield 67, 3) := by decide +kernel
theorem dX10_thrown_4 : decode cX10_thrown 4 = .ok (.ireturn, 1) := by decide +kernel
theorem dX10_in_0 : decode cX10_in 0 = .ok (.iload_n 0, 1) := by decide +kernel
theorem dX10_in_1 : decode cX10_in 1 = .ok (.iload_n 1, 1) := by decide +kernel
theorem dX10_in_2 : decode cX10_in 2 = .ok (.if_icmp .lt 12, 3) := by decide +kernel
theorem dX10_in_5 : decode cX10_in 5 = .ok (.iload_n 0, 1) := by decide +kernel
theorem dX10_in_6 : decode cX10_in 6 = .ok (.iload_n 2, 1) := by decide +kernel
theorem dX10_in_7 : decode cX10_in 7 = .ok (.if_icmp .gt 7, 3) := by decide +kernel
theorem dX10_in_10 : decode cX10_in 10 = .ok (.iconst 1, 1) := by decide +kernel
theorem dX10_in_11 : decode cX10_in 11 = .ok (.goto 4, 3) := by decide +kernel
theorem dX10_in_14 : decode cX10_in 14 = .ok (.iconst 0, 1) := by decide +kernel
theorem dX10_in_15 : decode cX10_in 15 = .ok (.ireturn, 1) := by decide +kernel
theorem dX10_lost_0 : decode cX10_lost 0 = .ok (.aload_n 0, 1) := by decide +kernel
theorem dX10_lost_1 : decode cX10_lost 1 = .ok (.iconst 1, 1) := by decide +kernel
theorem dX10_lost_2 : decode cX10_lost 2 = .ok (.putfield 67, 3) := by decide +kernel
theorem dX10_lost_5 : decode cX10_lost 5 = .ok (.iconst 0, 1) := by decide +kernel
theorem dX10_lost_6 : decode cX10_lost 6 = .ok (.ireturn, 1) := by decide +kernel
theorem dX10_tell_0 : decode cX10_tell 0 = .ok (.aload_n 0, 1) := by decide +kernel
theorem dX10_tell_1 : decode cX10_tell 1 = .ok (.getfield 19, 3) := by decide +kernel
theorem dX10_tell_4 : decode cX10_tell 4 = .ok (.aload_n 0, 1) := by decide +kernel
theorem dX10_tell_5 : decode cX10_tell 5 = .ok (.getfield 71, 3) := by decide +kernel
theorem dX10_tell_8 : decode cX10_tell 8 = .ok (.lload_n 1, 1) := by decide +kernel
theorem dX10_tell_9 : decode cX10_tell 9 = .ok (.lastore, 1) := by decide +kernel
theorem dX10_tell_10 : decode cX10_tell 10 = .ok (.aload_n 0, 1) := by decide +kernel
theorem dX10_tell_11 : decode cX10_tell 11 = .ok (.dup, 1) := by decide +kernel
theorem dX10_tell_12 : decode cX10_tell 12 = .ok (.getfield 71, 3) := by decide +kernel
theorem dX10_tell_15 : decode cX10_tell 15 = .ok (.iconst 1, 1) := by decide +kernel
theorem dX10_tell_16 : decode cX10_tell 16 = .ok (.iadd, 1) := by decide +kernel
theorem dX10_tell_17 : decode cX10_tell 17 = .ok (.putfield 71, 3) := by decide +kernel
theorem dX10_tell_20 : decode cX10_tell 20 = .ok (.return_, 1) := by decide +kernel
theorem dX10_rows_0 : decode cX10_rows 0 = .ok (.aload_n 0, 1) := by decide +kernel
theorem dX10_rows_1 : decode cX10_rows 1 = .ok (.getfield 11, 3) := by decide +kernel
theorem dX10_rows_4 : decode cX10_rows 4 = .ok (.iconst 0, 1) := by decide +kernel
theorem dX10_rows_5 : decode cX10_rows 5 = .ok (.laload, 1) := by decide +kernel
theorem dX10_rows_6 : decode cX10_rows 6 = .ok (.l2i, 1) := by decide +kernel
theorem dX10_rows_7 : decode cX10_rows 7 = .ok (.ireturn, 1) := by decide +kernel
theorem dX10_columns_0 : decode cX10_columns 0 = .ok (.aload_n 0, 1) := by decide +kernel
theorem dX10_columns_1 : decode cX10_columns 1 = .ok (.getfield 11, 3) := by decide +kernel
theorem dX10_columns_4 : decode cX10_columns 4 = .ok (.iconst 1, 1) := by decide +kernel
theorem dX10_columns_5 : decode cX10_columns 5 = .ok (.laload, 1) := by decide +kernel
theorem dX10_columns_6 : decode cX10_columns 6 = .ok (.l2i, 1) := by decide +kernel
theorem dX10_columns_7 : decode cX10_columns 7 = .ok (.ireturn, 1) := by decide +kernel
theorem dX10_kindOf_0 : decode cX10_kindOf 0 = .ok (.aload_n 0, 1) := by decide +kernel
theorem dX10_kindOf_1 : decode cX10_kindOf 1 = .ok (.getfield 11, 3) := by decide +kernel
theorem dX10_kindOf_4 : decode cX10_kindOf 4 = .ok (.iconst 2, 1) := by decide +kernel
theorem dX10_kindOf_5 : decode cX10_kindOf 5 = .ok (.iload_n 1, 1) := by decide +kernel
theorem dX10_kindOf_6 : decode cX10_kindOf 6 = .ok (.iadd, 1) := by decide +kernel
theorem dX10_kindOf_7 : decode cX10_kindOf 7 = .ok (.laload, 1) := by decide +kernel
theorem dX10_kindOf_8 : decode cX10_kindOf 8 = .ok (.l2i, 1) := by decide +kernel
theorem dX10_kindOf_9 : decode cX10_kindOf 9 = .ok (.ireturn, 1) := by decide +kernel
set_option maxRecDepth 20000 in
theorem ggX10_isColumn_X10_columns : GoodIn wsX10_isColumn wsX10_columns := goodIn_r _ [5, 6, 10, 11, 12, 13, 14, 15, 16, 17, 18, 19, 20, 21, 22, 23, 24, 25, 26, 27, 28, 29, 30, 31, 32, 33, 34, 35] (by decide +kernel) (by decide +kernel)
set_option maxRecDepth 20000 in
theorem gX10_isColumn_X10_columns : GoodIn wsX10_isColumn (wsV RX10 74 RX10 yX10_columns wsX10_columns) := goodIn_app (goodIn_of _ (by decide +kernel)) ggX10_isColumn_X10_columns
set_option maxRecDepth 20000 in
theorem ggX10_isColumn_X10_in : GoodIn wsX10_isColumn wsX10_in := goodIn_r _ [9] (by decide +kernel) (by decide +kernel)
set_option maxRecDepth 20000 in
theorem gX10_isColumn_X10_in : GoodIn wsX10_isColumn (va_wsS RX10 78 yX10_in wsX10_in) := goodIn_app (goodIn_of _ (by decide +kernel)) ggX10_isColumn_X10_in
theorem dX10_isColumn_0 : decode cX10_isColumn 0 = .ok (.iload_n 1, 1) := by decide +kernel
theorem dX10_isColumn_1 : decode cX10_isColumn 1 = .ok (.iconst 0, 1) := by decide +kernel
theorem dX10_isColumn_2 : decode cX10_isColumn 2 = .ok (.aload_n 0, 1) := by decide +kernel
theorem dX10_isColumn_3 : decode cX10_isColumn 3 = .ok (.invokevirtual 74, 3) := by decide +kernel
theorem dX10_isColumn_6 : decode cX10_isColumn 6 = .ok (.iconst 1, 1) := by decide +kernel
theorem dX10_isColumn_7 : decode cX10_isColumn 7 = .ok (.isub, 1) := by decide +kernel
theorem dX10_isColumn_8 : decode cX10_isColumn 8 = .ok (.invokestatic 78, 3) := by decide +kernel
theorem dX10_isColumn_11 : decode cX10_isColumn 11 = .ok (.ireturn, 1) := by decide +kernel
set_option maxRecDepth 20000 in
theorem ggX10_isRow_X10_rows : GoodIn wsX10_isRow wsX10_rows := goodIn_r _ [5, 6, 10, 11, 12, 13, 14, 15, 16, 17, 18, 19, 20, 21, 22, 23, 24, 25, 26, 27, 28, 29, 30, 31, 32, 33, 34, 35] (by decide +kernel) (by decide +kernel)
set_option maxRecDepth 20000 in
theorem gX10_isRow_X10_rows : GoodIn wsX10_isRow (wsV RX10 82 RX10 yX10_rows wsX10_rows) := goodIn_app (goodIn_of _ (by decide +kernel)) ggX10_isRow_X10_rows
set_option maxRecDepth 20000 in
theorem ggX10_isRow_X10_in : GoodIn wsX10_isRow wsX10_in := goodIn_r _ [9] (by decide +kernel) (by decide +kernel)
set_option maxRecDepth 20000 in
theorem gX10_isRow_X10_in : GoodIn wsX10_isRow (va_wsS RX10 78 yX10_in wsX10_in) := goodIn_app (goodIn_of _ (by decide +kernel)) ggX10_isRow_X10_in
theorem dX10_isRow_0 : decode cX10_isRow 0 = .ok (.iload_n 1, 1) := by decide +kernel
theorem dX10_isRow_1 : decode cX10_isRow 1 = .ok (.iconst 0, 1) := by decide +kernel
theorem dX10_isRow_2 : decode cX10_isRow 2 = .ok (.aload_n 0, 1) := by decide +kernel
theorem dX10_isRow_3 : decode cX10_isRow 3 = .ok (.invokevirtual 82, 3) := by decide +kernel
theorem dX10_isRow_6 : decode cX10_isRow 6 = .ok (.iconst 1, 1) := by decide +kernel
theorem dX10_isRow_7 : decode cX10_isRow 7 = .ok (.isub, 1) := by decide +kernel
theorem dX10_isRow_8 : decode cX10_isRow 8 = .ok (.invokestatic 78, 3) := by decide +kernel
theorem dX10_isRow_11 : decode cX10_isRow 11 = .ok (.ireturn, 1) := by decide +kernel
set_option maxRecDepth 20000 in
theorem ggX10_isProper_X10_isColumn : GoodIn wsX10_isProper wsX10_isColumn := goodIn_r _ [5, 6, 7, 8, 4, 9, 10, 11, 12, 13, 18, 19, 20, 21, 22, 23, 24, 25, 26, 27, 28, 29, 30, 31, 32, 33, 34, 35, 36, 37, 38, 39, 40, 41, 42, 43] (by decide +kernel) (by decide +kernel)
set_option maxRecDepth 20000 in
theorem gX10_isProper_X10_isColumn : GoodIn wsX10_isProper (wsV RX10 85 RX10 yX10_isColumn wsX10_isColumn) := goodIn_app (goodIn_of _ (by decide +kernel)) ggX10_isProper_X10_isColumn
set_option maxRecDepth 20000 in
theorem ggX10_isProper_X10_kindOf : GoodIn wsX10_isProper wsX10_kindOf := goodIn_r _ [17, 10, 18, 19, 20, 21, 22, 23, 24, 25, 26, 27, 28, 29, 30, 31, 32, 33, 34, 35, 36, 37, 38, 39, 40, 41, 42, 43] (by decide +kernel) (by decide +kernel)
set_option maxRecDepth 20000 in
theorem gX10_isProper_X10_kindOf : GoodIn wsX10_isProper (wsV RX10 89 RX10 yX10_kindOf wsX10_kindOf) := goodIn_app (goodIn_of _ (by decide +kernel)) ggX10_isProper_X10_kindOf
theorem dX10_isProper_0 : decode cX10_isProper 0 = .ok (.aload_n 0, 1) := by decide +kernel
theorem dX10_isProper_1 : decode cX10_isProper 1 = .ok (.iload_n 1, 1) := by decide +kernel
theorem dX10_isProper_2 : decode cX10_isProper 2 = .ok (.invokevirtual 85, 3) := by decide +kernel
theorem dX10_isProper_5 : decode cX10_isProper 5 = .ok (.ifCond .eq 17, 3) := by decide +kernel
theorem dX10_isProper_8 : decode cX10_isProper 8 = .ok (.aload_n 0, 1) := by decide +kernel
theorem dX10_isProper_9 : decode cX10_isProper 9 = .ok (.iload_n 1, 1) := by decide +kernel
theorem dX10_isProper_10 : decode cX10_isProper 10 = .ok (.invokevirtual 89, 3) := by decide +kernel
theorem dX10_isProper_13 : decode cX10_isProper 13 = .ok (.bipush 10, 2) := by decide +kernel
theorem dX10_isProper_15 : decode cX10_isProper 15 = .ok (.if_icmp .gt 7, 3) := by decide +kernel
theorem dX10_isProper_18 : decode cX10_isProper 18 = .ok (.iconst 1, 1) := by decide +kernel
theorem dX10_isProper_19 : decode cX10_isProper 19 = .ok (.goto 4, 3) := by decide +kernel
theorem dX10_isProper_22 : decode cX10_isProper 22 = .ok (.iconst 0, 1) := by decide +kernel
theorem dX10_isProper_23 : decode cX10_isProper 23 = .ok (.ireturn, 1) := by decide +kernel
theorem dX10_cellAt_0 : decode cX10_cellAt 0 = .ok (.bipush 24, 2) := by decide +kernel
theorem dX10_cellAt_2 : decode cX10_cellAt 2 = .ok (.bipush 16, 2) := by decide +kernel
theorem dX10_cellAt_4 : decode cX10_cellAt 4 = .ok (.iload_n 0, 1) := by decide +kernel
theorem dX10_cellAt_5 : decode cX10_cellAt 5 = .ok (.imul, 1) := by decide +kernel
theorem dX10_cellAt_6 : decode cX10_cellAt 6 = .ok (.iadd, 1) := by decide +kernel
theorem dX10_cellAt_7 : decode cX10_cellAt 7 = .ok (.iload_n 1, 1) := by decide +kernel
theorem dX10_cellAt_8 : decode cX10_cellAt 8 = .ok (.iadd, 1) := by decide +kernel
theorem dX10_cellAt_9 : decode cX10_cellAt 9 = .ok (.ireturn, 1) := by decide +kernel
set_option maxRecDepth 20000 in
theorem ggX10_cell_X10_cellAt : GoodIn wsX10_cell wsX10_cellAt := goodIn_r _ [5] (by decide +kernel) (by decide +kernel)
set_option maxRecDepth 20000 in
theorem gX10_cell_X10_cellAt : GoodIn wsX10_cell (va_wsS RX10 93 yX10_cellAt wsX10_cellAt) := goodIn_app (goodIn_of _ (by decide +kernel)) ggX10_cell_X10_cellAt
theorem dX10_cell_0 : decode cX10_cell 0 = .ok (.aload_n 0, 1) := by decide +kernel
theorem dX10_cell_1 : decode cX10_cell 1 = .ok (.getfield 11, 3) := by decide +kernel
theorem dX10_cell_4 : decode cX10_cell 4 = .ok (.iload_n 1, 1) := by decide +kernel
theorem dX10_cell_5 : decode cX10_cell 5 = .ok (.iload_n 2, 1) := by decide +kernel
theorem dX10_cell_6 : decode cX10_cell 6 = .ok (.invokestatic 93, 3) := by decide +kernel
theorem dX10_cell_9 : decode cX10_cell 9 = .ok (.laload, 1) := by decide +kernel
theorem dX10_cell_10 : decode cX10_cell 10 = .ok (.lreturn, 1) := by decide +kernel
set_option maxRecDepth 20000 in
theorem ggX10_isWay_X10_in : GoodIn wsX10_isWay wsX10_in := goodIn_r _ [4] (by decide +kernel) (by decide +kernel)
set_option maxRecDepth 20000 in
theorem gX10_isWay_X10_in : GoodIn wsX10_isWay (va_wsS RX10 78 yX10_in wsX10_in) := goodIn_app (goodIn_of _ (by decide +kernel)) ggX10_isWay_X10_in
theorem dX10_isWay_0 : decode cX10_isWay 0 = .ok (.iload_n 0, 1) := by decide +kernel
theorem dX10_isWay_1 : decode cX10_isWay 1 = .ok (.iconst 0, 1) := by decide +kernel
theorem dX10_isWay_2 : decode cX10_isWay 2 = .ok (.bipush 7, 2) := by decide +kernel
theorem dX10_isWay_4 : decode cX10_isWay 4 = .ok (.invokestatic 78, 3) := by decide +kernel
theorem dX10_isWay_7 : decode cX10_isWay 7 = .ok (.ifCond .ne 14, 3) := by decide +kernel
theorem dX10_isWay_10 : decode cX10_isWay 10 = .ok (.iload_n 0, 1) := by decide +kernel
theorem dX10_isWay_11 : decode cX10_isWay 11 = .ok (.bipush 10, 2) := by decide +kernel
theorem dX10_isWay_13 : decode cX10_isWay 13 = .ok (.bipush 21, 2) := by decide +kernel
theorem dX10_isWay_15 : decode cX10_isWay 15 = .ok (.invokestatic 78, 3) := by decide +kernel
theorem dX10_isWay_18 : decode cX10_isWay 18 = .ok (.ifCond .eq 7, 3) := by decide +kernel
theorem dX10_isWay_21 : decode cX10_isWay 21 = .ok (.iconst 1, 1) := by decide +kernel
theorem dX10_isWay_22 : decode cX10_isWay 22 = .ok (.goto 4, 3) := by decide +kernel
theorem dX10_isWay_25 : decode cX10_isWay 25 = .ok (.iconst 0, 1) := by decide +kernel
theorem dX10_isWay_26 : decode cX10_isWay 26 = .ok (.ireturn, 1) := by decide +kernel
theorem dX10_sign_0 : decode cX10_sign 0 = .ok (.aload_n 0, 1) := by decide +kernel
theorem dX10_sign_1 : decode cX10_sign 1 = .ok (.iconst 0, 1) := by decide +kernel
theorem dX10_sign_2 : decode cX10_sign 2 = .ok (.putfield 67, 3) := by decide +kernel
theorem dX10_sign_5 : decode cX10_sign 5 = .ok (.aload_n 0, 1) := by decide +kernel
theorem dX10_sign_6 : decode cX10_sign 6 = .ok (.getfield 97, 3) := by decide +kernel
theorem dX10_sign_9 : decode cX10_sign 9 = .ok (.iconst 4, 1) := by decide +kernel
theorem dX10_sign_10 : decode cX10_sign 10 = .ok (.iadd, 1) := by decide +kernel
theorem dX10_sign_11 : decode cX10_sign 11 = .ok (.bipush 80, 2) := by decide +kernel
theorem dX10_sign_13 : decode cX10_sign 13 = .ok (.if_icmp .le 5, 3) := by decide +kernel
theorem dX10_sign_16 : decode cX10_sign 16 = .ok (.iconst (-1), 1) := by decide +kernel
theorem dX10_sign_17 : decode cX10_sign 17 = .ok (.ireturn, 1) := by decide +kernel
theorem dX10_sign_18 : decode cX10_sign 18 = .ok (.iconst 3, 1) := by decide +kernel
theorem dX10_sign_19 : decode cX10_sign 19 = .ok (.istore_n 2, 1) := by decide +kernel
theorem dX10_sign_20 : decode cX10_sign 20 = .ok (.iload_n 2, 1) := by decide +kernel
theorem dX10_sign_21 : decode cX10_sign 21 = .ok (.ifCond .lt 32, 3) := by decide +kernel
theorem dX10_sign_24 : decode cX10_sign 24 = .ok (.aload_n 0, 1) := by decide +kernel
theorem dX10_sign_25 : decode cX10_sign 25 = .ok (.getfield 15, 3) := by decide +kernel
theorem dX10_sign_28 : decode cX10_sign 28 = .ok (.aload_n 0, 1) := by decide +kernel
theorem dX10_sign_29 : decode cX10_sign 29 = .ok (.dup, 1) := by decide +kernel
theorem dX10_sign_30 : decode cX10_sign 30 = .ok (.getfield 97, 3) := by decide +kernel
theorem dX10_sign_33 : decode cX10_sign 33 = .ok (.dup_x1, 1) := by decide +kernel
theorem dX10_sign_34 : decode cX10_sign 34 = .ok (.iconst 1, 1) := by decide +kernel
theorem dX10_sign_35 : decode cX10_sign 35 = .ok (.iadd, 1) := by decide +kernel
theorem dX10_sign_36 : decode cX10_sign 36 = .ok (.putfield 97, 3) := by decide +kernel
theorem dX10_sign_39 : decode cX10_sign 39 = .ok (.iload_n 1, 1) := by decide +kernel
theorem dX10_sign_40 : decode cX10_sign 40 = .ok (.bipush 8, 2) := by decide +kernel
theorem dX10_sign_42 : decode cX10_sign 42 = .ok (.iload_n 2, 1) := by decide +kernel
theorem dX10_sign_43 : decode cX10_sign 43 = .ok (.imul, 1) := by decide +kernel
theorem dX10_sign_44 : decode cX10_sign 44 = .ok (.ishr, 1) := by decide +kernel
theorem dX10_sign_45 : decode cX10_sign 45 = .ok (.i2b, 1) := by decide +kernel
theorem dX10_sign_46 : decode cX10_sign 46 = .ok (.bastore, 1) := by decide +kernel
theorem dX10_sign_47 : decode cX10_sign 47 = .ok (.iinc 2 (-1), 3) := by decide +kernel
theorem dX10_sign_50 : decode cX10_sign 50 = .ok (.goto (-30), 3) := by decide +kernel
theorem dX10_sign_53 : decode cX10_sign 53 = .ok (.aload_n 0, 1) := by decide +kernel
theorem dX10_sign_54 : decode cX10_sign 54 = .ok (.getfield 97, 3) := by decide +kernel
theorem dX10_sign_57 : decode cX10_sign 57 = .ok (.ireturn, 1) := by decide +kernel
set_option maxRecDepth 20000 in
theorem ggX10_end_X10_in : GoodIn wsX10_end wsX10_in := goodIn_r _ [6] (by decide +kernel) (by decide +kernel)
set_option maxRecDepth 20000 in
theorem gX10_end_X10_in : GoodIn wsX10_end (va_wsS RX10 78 yX10_in wsX10_in) := goodIn_app (goodIn_of _ (by decide +kernel)) ggX10_end_X10_in
theorem dX10_end_0 : decode cX10_end 0 = .ok (.aload_n 0, 1) := by decide +kernel
theorem dX10_end_1 : decode cX10_end 1 = .ok (.iconst 0, 1) := by decide +kernel
theorem dX10_end_2 : decode cX10_end 2 = .ok (.putfield 67, 3) := by decide +kernel
theorem dX10_end_5 : decode cX10_end 5 = .ok (.iload_n 1, 1) := by decide +kernel
theorem dX10_end_6 : decode cX10_end 6 = .ok (.iconst 0, 1) := by decide +kernel
theorem dX10_end_7 : decode cX10_end 7 = .ok (.aload_n 0, 1) := by decide +kernel
theorem dX10_end_8 : decode cX10_end 8 = .ok (.getfield 97, 3) := by decide +kernel
theorem dX10_end_11 : decode cX10_end 11 = .ok (.invokestatic 78, 3) := by decide +kernel
theorem dX10_end_14 : decode cX10_end 14 = .ok (.ifCond .ne 5, 3) := by decide +kernel
theorem dX10_end_17 : decode cX10_end 17 = .ok (.iconst 0, 1) := by decide +kernel
theorem dX10_end_18 : decode cX10_end 18 = .ok (.ireturn, 1) := by decide +kernel
theorem dX10_end_19 : decode cX10_end 19 = .ok (.aload_n 0, 1) := by decide +kernel
theorem dX10_end_20 : decode cX10_end 20 = .ok (.iload_n 1, 1) := by decide +kernel
theorem dX10_end_21 : decode cX10_end 21 = .ok (.putfield 97, 3) := by decide +kernel
theorem dX10_end_24 : decode cX10_end 24 = .ok (.iconst 1, 1) := by decide +kernel
theorem dX10_end_25 : decode cX10_end 25 = .ok (.ireturn, 1) := by decide +kernel
theorem dX10_begin_0 : decode cX10_begin 0 = .ok (.aload_n 0, 1) := by decide +kernel
theorem dX10_begin_1 : decode cX10_begin 1 = .ok (.aload_n 0, 1) := by decide +kernel
theorem dX10_begin_2 : decode cX10_begin 2 = .ok (.getfield 97, 3) := by decide +kernel
theorem dX10_begin_5 : decode cX10_begin 5 = .ok (.putfield 100, 3) := by decide +kernel
theorem dX10_begin_8 : decode cX10_begin 8 = .ok (.aload_n 0, 1) := by decide +kernel
theorem dX10_begin_9 : decode cX10_begin 9 = .ok (.iconst 0, 1) := by decide +kernel
theorem dX10_begin_10 : decode cX10_begin 10 = .ok (.putfield 103, 3) := by decide +kernel
theorem dX10_begin_13 : decode cX10_begin 13 = .ok (.aload_n 0, 1) := by decide +kernel
theorem dX10_begin_14 : decode cX10_begin 14 = .ok (.iconst (-1), 1) := by decide +kernel
theorem dX10_begin_15 : decode cX10_begin 15 = .ok (.putfield 106, 3) := by decide +kernel
theorem dX10_begin_18 : decode cX10_begin 18 = .ok (.aload_n 0, 1) := by decide +kernel
theorem dX10_begin_19 : decode cX10_begin 19 = .ok (.iconst 0, 1) := by decide +kernel
theorem dX10_begin_20 : decode cX10_begin 20 = .ok (.putfield 97, 3) := by decide +kernel
theorem dX10_begin_23 : decode cX10_begin 23 = .ok (.return_, 1) := by decide +kernel
theorem dX10_here_0 : decode cX10_here 0 = .ok (.aload_n 0, 1) := by decide +kernel
theorem dX10_here_1 : decode cX10_here 1 = .ok (.getfield 103, 3) := by decide +kernel
theorem dX10_here_4 : decode cX10_here 4 = .ok (.aload_n 0, 1) := by decide +kernel
theorem dX10_here_5 : decode cX10_here 5 = .ok (.getfield 100, 3) := by decide +kernel
theorem dX10_here_8 : decode cX10_here 8 = .ok (.if_icmp .ge 19, 3) := by decide +kernel
theorem dX10_here_11 : decode cX10_here 11 = .ok (.aload_n 0, 1) := by decide +kernel
theorem dX10_here_12 : decode cX10_here 12 = .ok (.getfield 15, 3) := by decide +kernel
theorem dX10_here_15 : decode cX10_here 15 = .ok (.aload_n 0, 1) := by decide +kernel
theorem dX10_here_16 : decode cX10_here 16 = .ok (.getfield 103, 3) := by decide +kernel
theorem dX10_here_19 : decode cX10_here 19 = .ok (.baload, 1) := by decide +kernel
theorem dX10_here_20 : decode cX10_here 20 = .ok (.sipush 255, 3) := by decide +kernel
theorem dX10_here_23 : decode cX10_here 23 = .ok (.iand, 1) := by decide +kernel
theorem dX10_here_24 : decode cX10_here 24 = .ok (.goto 4, 3) := by decide +kernel
theorem dX10_here_27 : decode cX10_here 27 = .ok (.iconst (-1), 1) := by decide +kernel
theorem dX10_here_28 : decode cX10_here 28 = .ok (.ireturn, 1) := by decide +kernel
theorem dX10_fine_0 : decode cX10_fine 0 = .ok (.aload_n 0, 1) := by decide +kernel
theorem dX10_fine_1 : decode cX10_fine 1 = .ok (.getfield 106, 3) := by decide +kernel
theorem dX10_fine_4 : decode cX10_fine 4 = .ok (.iconst (-1), 1) := by decide +kernel
theorem dX10_fine_5 : decode cX10_fine 5 = .ok (.if_icmp .ne 7, 3) := by decide +kernel
theorem dX10_fine_8 : decode cX10_fine 8 = .ok (.iconst 1, 1) := by decide +kernel
theorem dX10_fine_9 : decode cX10_fine 9 = .ok (.goto 4, 3) := by decide +kernel
theorem dX10_fine_12 : decode cX10_fine 12 = .ok (.iconst 0, 1) := by decide +kernel
theorem dX10_fine_13 : decode cX10_fine 13 = .ok (.ireturn, 1) := by decide +kernel
set_option maxRecDepth 20000 in
theorem ggX10_fault_X10_fine : GoodIn wsX10_fault wsX10_fine := goodIn_r _ [6, 1, 7, 8, 9, 10, 11, 12, 13, 14, 15, 16, 17, 18, 19, 20, 21, 22, 23, 24, 25, 26, 27, 28, 29, 30, 31, 32] (by decide +kernel) (by decide +kernel)
set_option maxRecDepth 20000 in
theorem gX10_fault_X10_fine : GoodIn wsX10_fault (wsV RX10 109 RX10 yX10_fine wsX10_fine) := goodIn_app (goodIn_of _ (by decide +kernel)) ggX10_fault_X10_fine
theorem dX10_fault_0 : decode cX10_fault 0 = .ok (.aload_n 0, 1) := by decide +kernel
theorem dX10_fault_1 : decode cX10_fault 1 = .ok (.invokevirtual 109, 3) := by decide +kernel
theorem dX10_fault_4 : decode cX10_fault 4 = .ok (.ifCond .eq 8, 3) := by decide +kernel
theorem dX10_fault_7 : decode cX10_fault 7 = .ok (.aload_n 0, 1) := by decide +kernel
theorem dX10_fault_8 : decode cX10_fault 8 = .ok (.iload_n 1, 1) := by decide +kernel
theorem dX10_fault_9 : decode cX10_fault 9 = .ok (.putfield 106, 3) := by decide +kernel
theorem dX10_fault_12 : decode cX10_fault 12 = .ok (.return_, 1) := by decide +kernel
set_option maxRecDepth 20000 in
theorem ggX10_oneOf_X10_fine : GoodIn wsX10_oneOf wsX10_fine := goodIn_r _ [7, 8, 21, 22, 23, 24, 25, 26, 27, 28, 29, 30, 31, 32, 33, 34, 35, 36, 37, 38, 39, 40, 41, 42, 43, 44, 45, 46] (by decide +kernel) (by decide +kernel)
set_option maxRecDepth 20000 in
theorem gX10_oneOf_X10_fine : GoodIn wsX10_oneOf (wsV RX10 109 RX10 yX10_fine wsX10_fine) := goodIn_app (goodIn_of _ (by decide +kernel)) ggX10_oneOf_X10_fine
set_option maxRecDepth 20000 in
theorem ggX10_oneOf_X10_here : GoodIn wsX10_oneOf wsX10_here := goodIn_r _ [12, 1, 13, 2, 21, 22, 23, 24, 25, 26, 27, 28, 29, 30, 31, 32, 33, 34, 35, 36, 37, 38, 39, 40, 41, 42, 43, 44, 45, 46] (by decide +kernel) (by decide +kernel)
set_option maxRecDepth 20000 in
theorem gX10_oneOf_X10_here : GoodIn wsX10_oneOf (wsV RX10 113 RX10 yX10_here wsX10_here) := goodIn_app (goodIn_of _ (by decide +kernel)) ggX10_oneOf_X10_here
set_option maxRecDepth 20000 in
theorem ggX10_oneOf_X10_in : GoodIn wsX10_oneOf wsX10_in := goodIn_r _ [16] (by decide +kernel) (by decide +kernel)
set_option maxRecDepth 20000 in
theorem gX10_oneOf_X10_in : GoodIn wsX10_oneOf (va_wsS RX10 78 yX10_in wsX10_in) := goodIn_app (goodIn_of _ (by decide +kernel)) ggX10_oneOf_X10_in
set_option maxRecDepth 20000 in
theorem ggX10_oneOf_X10_fault : GoodIn wsX10_oneOf wsX10_fault := goodIn_r _ [20, 8, 3, 4, 5, 6, 7, 21, 22, 23, 24, 25, 26, 27, 28, 29, 30, 31, 32, 33, 34, 35, 36, 37, 38, 39, 40, 41, 42, 43, 44, 45, 46] (by decide +kernel) (by decide +kernel)
set_option maxRecDepth 20000 in
theorem gX10_oneOf_X10_fault : GoodIn wsX10_oneOf (wsV RX10 116 RX10 yX10_fault wsX10_fault) := goodIn_app (goodIn_of _ (by decide +kernel)) ggX10_oneOf_X10_fault
theorem dX10_oneOf_0 : decode cX10_oneOf 0 = .ok (.aload_n 0, 1) := by decide +kernel
theorem dX10_oneOf_1 : decode cX10_oneOf 1 = .ok (.invokevirtual 109, 3) := by decide +kernel
theorem dX10_oneOf_4 : decode cX10_oneOf 4 = .ok (.ifCond .ne 5, 3) := by decide +kernel
theorem dX10_oneOf_7 : decode cX10_oneOf 7 = .ok (.iconst 0, 1) := by decide +kernel
theorem dX10_oneOf_8 : decode cX10_oneOf 8 = .ok (.ireturn, 1) := by decide +kernel
theorem dX10_oneOf_9 : decode cX10_oneOf 9 = .ok (.aload_n 0, 1) := by decide +kernel
theorem dX10_oneOf_10 : decode cX10_oneOf 10 = .ok (.invokevirtual 113, 3) := by decide +kernel
theorem dX10_oneOf_13 : decode cX10_oneOf 13 = .ok (.iload_n 1, 1) := by decide +kernel
theorem dX10_oneOf_14 : decode cX10_oneOf 14 = .ok (.iload_n 1, 1) := by decide +kernel
theorem dX10_oneOf_15 : decode cX10_oneOf 15 = .ok (.iload_n 2, 1) := by decide +kernel
theorem dX10_oneOf_16 : decode cX10_oneOf 16 = .ok (.iadd, 1) := by decide +kernel
theorem dX10_oneOf_17 : decode cX10_oneOf 17 = .ok (.iconst 1, 1) := by decide +kernel
theorem dX10_oneOf_18 : decode cX10_oneOf 18 = .ok (.isub, 1) := by decide +kernel
theorem dX10_oneOf_19 : decode cX10_oneOf 19 = .ok (.invokestatic 78, 3) := by decide +kernel
theorem dX10_oneOf_22 : decode cX10_oneOf 22 = .ok (.ifCond .ne 13, 3) := by decide +kernel
theorem dX10_oneOf_25 : decode cX10_oneOf 25 = .ok (.aload_n 0, 1) := by decide +kernel
theorem dX10_oneOf_26 : decode cX10_oneOf 26 = .ok (.aload_n 0, 1) := by decide +kernel
theorem dX10_oneOf_27 : decode cX10_oneOf 27 = .ok (.getfield 103, 3) := by decide +kernel
theorem dX10_oneOf_30 : decode cX10_oneOf 30 = .ok (.invokevirtual 116, 3) := by decide +kernel
theorem dX10_oneOf_33 : decode cX10_oneOf 33 = .ok (.iconst 0, 1) := by decide +kernel
theorem dX10_oneOf_34 : decode cX10_oneOf 34 = .ok (.ireturn, 1) := by decide +kernel
theorem dX10_oneOf_35 : decode cX10_oneOf 35 = .ok (.aload_n 0, 1) := by decide +kernel
theorem dX10_oneOf_36 : decode cX10_oneOf 36 = .ok (.dup, 1) := by decide +kernel
theorem dX10_oneOf_37 : decode cX10_oneOf 37 = .ok (.getfield 103, 3) := by decide +kernel
theorem dX10_oneOf_40 : decode cX10_oneOf 40 = .ok (.iconst 1, 1) := by decide +kernel
theorem dX10_oneOf_41 : decode cX10_oneOf 41 = .ok (.iadd, 1) := by decide +kernel
theorem dX10_oneOf_42 : decode cX10_oneOf 42 = .ok (.putfield 103, 3) := by decide +kernel
theorem dX10_oneOf_45 : decode cX10_oneOf 45 = .ok (.aload_n 0, 1) := by decide +kernel
theorem dX10_oneOf_46 : decode cX10_oneOf 46 = .ok (.getfield 15, 3) := by decide +kernel
theorem dX10_oneOf_49 : decode cX10_oneOf 49 = .ok (.aload_n 0, 1) := by decide +kernel
theorem dX10_oneOf_50 : decode cX10_oneOf 50 = .ok (.getfield 103, 3) := by decide +kernel
theorem dX10_oneOf_53 : decode cX10_oneOf 53 = .ok (.iconst 1, 1) := by decide +kernel
theorem dX10_oneOf_54 : decode cX10_oneOf 54 = .ok (.isub, 1) := by decide +kernel
theorem dX10_oneOf_55 : decode cX10_oneOf 55 = .ok (.baload, 1) := by decide +kernel
theorem dX10_oneOf_56 : decode cX10_oneOf 56 = .ok (.iload_n 1, 1) := by decide +kernel
theorem dX10_oneOf_57 : decode cX10_oneOf 57 = .ok (.isub, 1) := by decide +kernel
theorem dX10_oneOf_58 : decode cX10_oneOf 58 = .ok (.ireturn, 1) := by decide +kernel
set_option maxRecDepth 20000 in
theorem ggX10_twoDigits_X10_oneOf : GoodIn wsX10_twoDigits wsX10_oneOf := goodIn_r _ [5, 6, 7, 8, 9, 10, 4, 11, 12, 13, 14, 15, 16, 17, 18, 19, 20, 21, 22, 23, 24, 25, 26, 27, 28, 29, 30, 31, 32, 33, 34, 35, 36, 37, 38, 39, 40, 41, 42, 43, 44, 45, 46, 47, 48, 49, 50] (by decide +kernel) (by decide +kernel)
set_option maxRecDepth 20000 in
theorem gX10_twoDigits_X10_oneOf : GoodIn wsX10_twoDigits (wsV RX10 120 RX10 yX10_oneOf wsX10_oneOf) := goodIn_app (goodIn_of _ (by decide +kernel)) ggX10_twoDigits_X10_oneOf
theorem dX10_twoDigits_0 : decode cX10_twoDigits 0 = .ok (.aload_n 0, 1) := by decide +kernel
theorem dX10_twoDigits_1 : decode cX10_twoDigits 1 = .ok (.bipush 48, 2) := by decide +kernel
theorem dX10_twoDigits_3 : decode cX10_twoDigits 3 = .ok (.bipush 10, 2) := by decide +kernel
theorem dX10_twoDigits_5 : decode cX10_twoDigits 5 = .ok (.invokevirtual 120, 3) := by decide +kernel
theorem dX10_twoDigits_8 : decode cX10_twoDigits 8 = .ok (.istore_n 1, 1) := by decide +kernel
theorem dX10_twoDigits_9 : decode cX10_twoDigits 9 = .ok (.bipush 10, 2) := by decide +kernel
theorem dX10_twoDigits_11 : decode cX10_twoDigits 11 = .ok (.iload_n 1, 1) := by decide +kernel
theorem dX10_twoDigits_12 : decode cX10_twoDigits 12 = .ok (.imul, 1) := by decide +kernel
theorem dX10_twoDigits_13 : decode cX10_twoDigits 13 = .ok (.aload_n 0, 1) := by decide +kernel
theorem dX10_twoDigits_14 : decode cX10_twoDigits 14 = .ok (.bipush 48, 2) := by decide +kernel
theorem dX10_twoDigits_16 : decode cX10_twoDigits 16 = .ok (.bipush 10, 2) := by decide +kernel
theorem dX10_twoDigits_18 : decode cX10_twoDigits 18 = .ok (.invokevirtual 120, 3) := by decide +kernel
theorem dX10_twoDigits_21 : decode cX10_twoDigits 21 = .ok (.iadd, 1) := by decide +kernel
theorem dX10_twoDigits_22 : decode cX10_twoDigits 22 = .ok (.ireturn, 1) := by decide +kernel
set_option maxRecDepth 20000 in
theorem ggX10_wasRight_X10_fault : GoodIn wsX10_wasRight wsX10_fault := goodIn_r _ [7, 8, 9, 10, 11, 6, 12, 13, 14, 15, 16, 17, 18, 19, 20, 21, 22, 23, 24, 25, 26, 27, 28, 29, 30, 31, 32, 33, 34, 35, 36, 37, 38] (by decide +kernel) (by decide +kernel)
set_option maxRecDepth 20000 in
theorem gX10_wasRight_X10_fault : GoodIn wsX10_wasRight (wsV RX10 116 RX10 yX10_fault wsX10_fault) := goodIn_app (goodIn_of _ (by decide +kernel)) ggX10_wasRight_X10_fault
set_option maxRecDepth 20000 in
theorem ggX10_wasRight_X10_fine : GoodIn wsX10_wasRight wsX10_fine := goodIn_r _ [12, 8, 13, 14, 15, 16, 17, 18, 19, 20, 21, 22, 23, 24, 25, 26, 27, 28, 29, 30, 31, 32, 33, 34, 35, 36, 37, 38] (by decide +kernel) (by decide +kernel)
set_option maxRecDepth 20000 in
theorem gX10_wasRight_X10_fine : GoodIn wsX10_wasRight (wsV RX10 109 RX10 yX10_fine wsX10_fine) := goodIn_app (goodIn_of _ (by decide +kernel)) ggX10_wasRight_X10_fine
theorem dX10_wasRight_0 : decode cX10_wasRight 0 = .ok (.aload_n 0, 1) := by decide +kernel
theorem dX10_wasRight_1 : decode cX10_wasRight 1 = .ok (.getfield 103, 3) := by decide +kernel
theorem dX10_wasRight_4 : decode cX10_wasRight 4 = .ok (.aload_n 0, 1) := by decide +kernel
theorem dX10_wasRight_5 : decode cX10_wasRight 5 = .ok (.getfield 100, 3) := by decide +kernel
theorem dX10_wasRight_8 : decode cX10_wasRight 8 = .ok (.if_icmp .ge 11, 3) := by decide +kernel
theorem dX10_wasRight_11 : decode cX10_wasRight 11 = .ok (.aload_n 0, 1) := by decide +kernel
theorem dX10_wasRight_12 : decode cX10_wasRight 12 = .ok (.aload_n 0, 1) := by decide +kernel
theorem dX10_wasRight_13 : decode cX10_wasRight 13 = .ok (.getfield 103, 3) := by decide +kernel
theorem dX10_wasRight_16 : decode cX10_wasRight 16 = .ok (.invokevirtual 116, 3) := by decide +kernel
theorem dX10_wasRight_19 : decode cX10_wasRight 19 = .ok (.aload_n 0, 1) := by decide +kernel
theorem dX10_wasRight_20 : decode cX10_wasRight 20 = .ok (.invokevirtual 109, 3) := by decide +kernel
theorem dX10_wasRight_23 : decode cX10_wasRight 23 = .ok (.ireturn, 1) := by decide +kernel
set_option maxRecDepth 20000 in
theorem ggX10_layTable_X10_cellAt : GoodIn wsX10_layTable wsX10_cellAt := goodIn_r _ [7] (by decide +kernel) (by decide +kernel)
set_option maxRecDepth 20000 in
theorem gX10_layTable_X10_cellAt : GoodIn wsX10_layTable (va_wsS RX10 93 yX10_cellAt wsX10_cellAt) := goodIn_app (goodIn_of _ (by decide +kernel)) ggX10_layTable_X10_cellAt
set_option maxRecDepth 20000 in
theorem ggX10_layTable_X10_in : GoodIn wsX10_layTable wsX10_in := goodIn_r _ [10] (by decide +kernel) (by decide +kernel)
set_option maxRecDepth 20000 in
theorem gX10_layTable_X10_in : GoodIn wsX10_layTable (va_wsS RX10 78 yX10_in wsX10_in) := goodIn_app (goodIn_of _ (by decide +kernel)) ggX10_layTable_X10_in
theorem dX10_layTable_0 : decode cX10_layTable 0 = .ok (.iconst 0, 1) := by decide +kernel
theorem dX10_layTable_1 : decode cX10_layTable 1 = .ok (.istore_n 3, 1) := by decide +kernel
theorem dX10_layTable_2 : decode cX10_layTable 2 = .ok (.iload_n 3, 1) := by decide +kernel
theorem dX10_layTable_3 : decode cX10_layTable 3 = .ok (.bipush 120, 2) := by decide +kernel
theorem dX10_layTable_5 : decode cX10_layTable 5 = .ok (.if_icmp .ge 16, 3) := by decide +kernel
theorem dX10_layTable_8 : decode cX10_layTable 8 = .ok (.aload_n 0, 1) := by decide +kernel
theorem dX10_layTable_9 : decode cX10_layTable 9 = .ok (.getfield 11, 3) := by decide +kernel
theorem dX10_layTable_12 : decode cX10_layTable 12 = .ok (.iload_n 3, 1) := by decide +kernel
theorem dX10_layTable_13 : decode cX10_layTable 13 = .ok (.lconst 0, 1) := by decide +kernel
theorem dX10_layTable_14 : decode cX10_layTable 14 = .ok (.lastore, 1) := by decide +kernel
theorem dX10_layTable_15 : decode cX10_layTable 15 = .ok (.iinc 3 1, 3) := by decide +kernel
theorem dX10_layTable_18 : decode cX10_layTable 18 = .ok (.goto (-16), 3) := by decide +kernel
theorem dX10_layTable_21 : decode cX10_layTable 21 = .ok (.aload_n 0, 1) := by decide +kernel
theorem dX10_layTable_22 : decode cX10_layTable 22 = .ok (.getfield 11, 3) := by decide +kernel
theorem dX10_layTable_25 : decode cX10_layTable 25 = .ok (.iconst 0, 1) := by decide +kernel
theorem dX10_layTable_26 : decode cX10_layTable 26 = .ok (.iload_n 1, 1) := by decide +kernel
theorem dX10_layTable_27 : decode cX10_layTable 27 = .ok (.i2l, 1) := by decide +kernel
theorem dX10_layTable_28 : decode cX10_layTable 28 = .ok (.lastore, 1) := by decide +kernel
theorem dX10_layTable_29 : decode cX10_layTable 29 = .ok (.aload_n 0, 1) := by decide +kernel
theorem dX10_layTable_30 : decode cX10_layTable 30 = .ok (.getfield 11, 3) := by decide +kernel
theorem dX10_layTable_33 : decode cX10_layTable 33 = .ok (.iconst 1, 1) := by decide +kernel
theorem dX10_layTable_34 : decode cX10_layTable 34 = .ok (.iload_n 2, 1) := by decide +kernel
theorem dX10_layTable_35 : decode cX10_layTable 35 = .ok (.i2l, 1) := by decide +kernel
theorem dX10_layTable_36 : decode cX10_layTable 36 = .ok (.lastore, 1) := by decide +kernel
theorem dX10_layTable_37 : decode cX10_layTable 37 = .ok (.iconst 0, 1) := by decide +kernel
theorem dX10_layTable_38 : decode cX10_layTable 38 = .ok (.istore_n 3, 1) := by decide +kernel
theorem dX10_layTable_39 : decode cX10_layTable 39 = .ok (.iload_n 3, 1) := by decide +kernel
theorem dX10_layTable_40 : decode cX10_layTable 40 = .ok (.iload_n 2, 1) := by decide +kernel
theorem dX10_layTable_41 : decode cX10_layTable 41 = .ok (.if_icmp .ge 73, 3) := by decide +kernel
theorem dX10_layTable_44 : decode cX10_layTable 44 = .ok (.aload_n 0, 1) := by decide +kernel
theorem dX10_layTable_45 : decode cX10_layTable 45 = .ok (.getfield 11, 3) := by decide +kernel
theorem dX10_layTable_48 : decode cX10_layTable 48 = .ok (.iconst 2, 1) := by decide +kernel
theorem dX10_layTable_49 : decode cX10_layTable 49 = .ok (.iload_n 3, 1) := by decide +kernel
theorem dX10_layTable_50 : decode cX10_layTable 50 = .ok (.iadd, 1) := by decide +kernel
theorem dX10_layTable_51 : decode cX10_layTable 51 = .ok (.aload_n 0, 1) := by decide +kernel
theorem dX10_layTable_52 : decode cX10_layTable 52 = .ok (.getfield 22, 3) := by decide +kernel
theorem dX10_layTable_55 : decode cX10_layTable 55 = .ok (.iload_n 3, 1) := by decide +kernel
theorem dX10_layTable_56 : decode cX10_layTable 56 = .ok (.iaload, 1) := by decide +kernel
theorem dX10_layTable_57 : decode cX10_layTable 57 = .ok (.i2l, 1) := by decide +kernel
theorem dX10_layTable_58 : decode cX10_layTable 58 = .ok (.lastore, 1) := by decide +kernel
theorem dX10_layTable_59 : decode cX10_layTable 59 = .ok (.iconst 0, 1) := by decide +kernel
theorem dX10_layTable_60 : decode cX10_layTable 60 = .ok (.istore 4, 2) := by decide +kernel
theorem dX10_layTable_62 : decode cX10_layTable 62 = .ok (.iload 4, 2) := by decide +kernel
theorem dX10_layTable_64 : decode cX10_layTable 64 = .ok (.iload_n 1, 1) := by decide +kernel
theorem dX10_layTable_65 : decode cX10_layTable 65 = .ok (.if_icmp .ge 43, 3) := by decide +kernel
theorem dX10_layTable_68 : decode cX10_layTable 68 = .ok (.aload_n 0, 1) := by decide +kernel
theorem dX10_layTable_69 : decode cX10_layTable 69 = .ok (.getfield 11, 3) := by decide +kernel
theorem dX10_layTable_72 : decode cX10_layTable 72 = .ok (.iload_n 3, 1) := by decide +kernel
theorem dX10_layTable_73 : decode cX10_layTable 73 = .ok (.iload 4, 2) := by decide +kernel
theorem dX10_layTable_75 : decode cX10_layTable 75 = .ok (.invokestatic 93, 3) := by decide +kernel
theorem dX10_layTable_78 : decode cX10_layTable 78 = .ok (.aload_n 0, 1) := by decide +kernel
theorem dX10_layTable_79 : decode cX10_layTable 79 = .ok (.getfield 22, 3) := by decide +kernel
theorem dX10_layTable_82 : decode cX10_layTable 82 = .ok (.iload_n 3, 1) := by decide +kernel
theorem dX10_layTable_83 : decode cX10_layTable 83 = .ok (.iaload, 1) := by decide +kernel
theorem dX10_layTable_84 : decode cX10_layTable 84 = .ok (.bipush 8, 2) := by decide +kernel
theorem dX10_layTable_86 : decode cX10_layTable 86 = .ok (.bipush 10, 2) := by decide +kernel
theorem dX10_layTable_88 : decode cX10_layTable 88 = .ok (.invokestatic 78, 3) := by decide +kernel
theorem dX10_layTable_91 : decode cX10_layTable 91 = .ok (.ifCond .eq 9, 3) := by decide +kernel
theorem dX10_layTable_94 : decode cX10_layTable 94 = .ok (.ldc2_w 124, 3) := by decide +kernel
theorem dX10_layTable_97 : decode cX10_layTable 97 = .ok (.goto 4, 3) := by decide +kernel
theorem dX10_layTable_100 : decode cX10_layTable 100 = .ok (.lconst 0, 1) := by decide +kernel
theorem dX10_layTable_101 : decode cX10_layTable 101 = .ok (.lastore, 1) := by decide +kernel
theorem dX10_layTable_102 : decode cX10_layTable 102 = .ok (.iinc 4 1, 3) := by decide +kernel
theorem dX10_layTable_105 : decode cX10_layTable 105 = .ok (.goto (-43), 3) := by decide +kernel
theorem dX10_layTable_108 : decode cX10_layTable 108 = .ok (.iinc 3 1, 3) := by decide +kernel
theorem dX10_layTable_111 : decode cX10_layTable 111 = .ok (.goto (-72), 3) := by decide +kernel
theorem dX10_layTable_114 : decode cX10_layTable 114 = .ok (.iconst 0, 1) := by decide +kernel
theorem dX10_layTable_115 : decode cX10_layTable 115 = .ok (.istore_n 3, 1) := by decide +kernel
theorem dX10_layTable_116 : decode cX10_layTable 116 = .ok (.iload_n 3, 1) := by decide +kernel
theorem dX10_layTable_117 : decode cX10_layTable 117 = .ok (.iload_n 1, 1) := by decide +kernel
theorem dX10_layTable_118 : decode cX10_layTable 118 = .ok (.if_icmp .ge 20, 3) := by decide +kernel
theorem dX10_layTable_121 : decode cX10_layTable 121 = .ok (.aload_n 0, 1) := by decide +kernel
theorem dX10_layTable_122 : decode cX10_layTable 122 = .ok (.getfield 11, 3) := by decide +kernel
theorem dX10_layTable_125 : decode cX10_layTable 125 = .ok (.bipush 8, 2) := by decide +kernel
theorem dX10_layTable_127 : decode cX10_layTable 127 = .ok (.iload_n 3, 1) := by decide +kernel
theorem dX10_layTable_128 : decode cX10_layTable 128 = .ok (.iadd, 1) := by decide +kernel
theorem dX10_layTable_129 : decode cX10_layTable 129 = .ok (.iload_n 3, 1) := by decide +kernel
theorem dX10_layTable_130 : decode cX10_layTable 130 = .ok (.i2l, 1) := by decide +kernel
theorem dX10_layTable_131 : decode cX10_layTable 131 = .ok (.lastore, 1) := by decide +kernel
theorem dX10_layTable_132 : decode cX10_layTable 132 = .ok (.iinc 3 1, 3) := by decide +kernel
theorem dX10_layTable_135 : decode cX10_layTable 135 = .ok (.goto (-19), 3) := by decide +kernel
theorem dX10_layTable_138 : decode cX10_layTable 138 = .ok (.return_, 1) := by decide +kernel
set_option maxRecDepth 20000 in
theorem ggX10_letterHere_J0_length_8abf5 : GoodIn wsX10_letterHere wsJ0_length_8abf5 := goodIn_r _ [5, 6, 7, 8, 9, 4, 10, 11, 12] (by decide +kernel) (by decide +kernel)
set_option maxRecDepth 20000 in
theorem gX10_letterHere_J0_length_8abf5 : GoodIn wsX10_letterHere (wsV RX10 128 RJ0 yJ0_length_8abf5 wsJ0_length_8abf5) := goodIn_app (goodIn_of _ (by decide +kernel)) ggX10_letterHere_J0_length_8abf5
set_option maxRecDepth 20000 in
theorem ggX10_letterHere_X10_here : GoodIn wsX10_letterHere wsX10_here := goodIn_r _ [17, 18, 19, 20, 58, 59, 60, 61, 62, 63, 64, 65, 66, 67, 68, 69, 70, 71, 72, 73, 74, 75, 76, 77, 78, 79, 80, 81, 82, 83] (by decide +kernel) (by decide +kernel)
set_option maxRecDepth 20000 in
theorem gX10_letterHere_X10_here : GoodIn wsX10_letterHere (wsV RX10 113 RX10 yX10_here wsX10_here) := goodIn_app (goodIn_of _ (by decide +kernel)) ggX10_letterHere_X10_here
set_option maxRecDepth 20000 in
theorem ggX10_letterHere_J0_charAt_5068e : GoodIn wsX10_letterHere wsJ0_charAt_5068e := goodIn_r _ [24, 6, 25, 26, 27, 4, 28, 11, 12, 29, 30, 31, 32, 33, 34, 35, 36, 37, 38, 39, 40, 41, 42, 43, 44, 45, 46, 47, 48, 49, 50, 51, 52, 53, 54, 55, 56, 57] (by decide +kernel) (by decide +kernel)
set_option maxRecDepth 20000 in
theorem gX10_letterHere_J0_charAt_5068e : GoodIn wsX10_letterHere (wsV RX10 132 RJ0 yJ0_charAt_5068e wsJ0_charAt_5068e) := goodIn_app (goodIn_of _ (by decide +kernel)) ggX10_letterHere_J0_charAt_5068e
theorem dX10_letterHere_0 : decode cX10_letterHere 0 = .ok (.iconst 0, 1) := by decide +kernel
theorem dX10_letterHere_1 : decode cX10_letterHere 1 = .ok (.istore_n 1, 1) := by decide +kernel
theorem dX10_letterHere_2 : decode cX10_letterHere 2 = .ok (.iload_n 1, 1) := by decide +kernel
theorem dX10_letterHere_3 : decode cX10_letterHere 3 = .ok (.ldc 126, 2) := by decide +kernel
theorem dX10_letterHere_5 : decode cX10_letterHere 5 = .ok (.invokevirtual 128, 3) := by decide +kernel
theorem dX10_letterHere_8 : decode cX10_letterHere 8 = .ok (.if_icmp .ge 24, 3) := by decide +kernel
theorem dX10_letterHere_11 : decode cX10_letterHere 11 = .ok (.aload_n 0, 1) := by decide +kernel
theorem dX10_letterHere_12 : decode cX10_letterHere 12 = .ok (.invokevirtual 113, 3) := by decide +kernel
theorem dX10_letterHere_15 : decode cX10_letterHere 15 = .ok (.ldc 126, 2) := by decide +kernel
theorem dX10_letterHere_17 : decode cX10_letterHere 17 = .ok (.iload_n 1, 1) := by decide +kernel
theorem dX10_letterHere_18 : decode cX10_letterHere 18 = .ok (.invokevirtual 132, 3) := by decide +kernel
theorem dX10_letterHere_21 : decode cX10_letterHere 21 = .ok (.if_icmp .ne 5, 3) := by decide +kernel
theorem dX10_letterHere_24 : decode cX10_letterHere 24 = .ok (.iload_n 1, 1) := by decide +kernel
theorem dX10_letterHere_25 : decode cX10_letterHere 25 = .ok (.ireturn, 1) := by decide +kernel
theorem dX10_letterHere_26 : decode cX10_letterHere 26 = .ok (.iinc 1 1, 3) := by decide +kernel
theorem dX10_letterHere_29 : decode cX10_letterHere 29 = .ok (.goto (-27), 3) := by decide +kernel
theorem dX10_letterHere_32 : decode cX10_letterHere 32 = .ok (.iconst (-1), 1) := by decide +kernel
theorem dX10_letterHere_33 : decode cX10_letterHere 33 = .ok (.ireturn, 1) := by decide +kernel
set_option maxRecDepth 20000 in
theorem ggX10_table_X10_begin : GoodIn wsX10_table wsX10_begin := goodIn_r _ [10, 11, 3, 2, 5, 117, 118, 119, 120, 121, 122, 123, 124, 125, 126, 127, 128, 129, 130, 131, 132, 133, 134, 135, 136, 137, 138, 139, 140, 141, 142] (by decide +kernel) (by decide +kernel)
set_option maxRecDepth 20000 in
theorem gX10_table_X10_begin : GoodIn wsX10_table (wsV RX10 136 RX10 yX10_begin wsX10_begin) := goodIn_app (goodIn_of _ (by decide +kernel)) ggX10_table_X10_begin
set_option maxRecDepth 20000 in
theorem ggX10_table_X10_twoDigits : GoodIn wsX10_table wsX10_twoDigits := goodIn_r _ [15, 16, 17, 18, 9, 19, 2, 20, 21, 22, 23, 24, 5, 25, 26, 27, 28, 3, 29, 30, 31, 32, 33, 34, 35, 117, 118, 119, 120, 121, 122, 123, 124, 125, 126, 127, 128, 129, 130, 131, 132, 133, 134, 135, 136, 137, 138, 139, 140, 141, 142] (by decide +kernel) (by decide +kernel)
set_option maxRecDepth 20000 in
theorem gX10_table_X10_twoDigits : GoodIn wsX10_table (wsV RX10 139 RX10 yX10_twoDigits wsX10_twoDigits) := goodIn_app (goodIn_of _ (by decide +kernel)) ggX10_table_X10_twoDigits
set_option maxRecDepth 20000 in
theorem ggX10_table_X10_fine : GoodIn wsX10_table wsX10_fine := goodIn_r _ [24, 5, 117, 118, 119, 120, 121, 122, 123, 124, 125, 126, 127, 128, 129, 130, 131, 132, 133, 134, 135, 136, 137, 138, 139, 140, 141, 142] (by decide +kernel) (by decide +kernel)
set_option maxRecDepth 20000 in
theorem gX10_table_X10_fine : GoodIn wsX10_table (wsV RX10 109 RX10 yX10_fine wsX10_fine) := goodIn_app (goodIn_of _ (by decide +kernel)) ggX10_table_X10_fine
set_option maxRecDepth 20000 in
theorem ggX10_table_X10_fault : GoodIn wsX10_table wsX10_fault := goodIn_r _ [35, 5, 21, 22, 23, 9, 24, 117, 118, 119, 120, 121, 122, 123, 124, 125, 126, 127, 128, 129, 130, 131, 132, 133, 134, 135, 136, 137, 138, 139, 140, 141, 142] (by decide +kernel) (by decide +kernel)
set_option maxRecDepth 20000 in
theorem gX10_table_X10_fault : GoodIn wsX10_table (wsV RX10 116 RX10 yX10_fault wsX10_fault) := goodIn_app (goodIn_of _ (by decide +kernel)) ggX10_table_X10_fault
set_option maxRecDepth 20000 in
theorem ggX10_table_X10_letterHere : GoodIn wsX10_table wsX10_letterHere := goodIn_r _ [39, 40, 41, 42, 43, 44, 45, 46, 47, 48, 49, 50, 51, 25, 26, 27, 9, 28, 2, 3, 20, 52, 53, 54, 55, 56, 57, 58, 59, 60, 61, 62, 63, 64, 65, 66, 67, 68, 69, 70, 71, 72, 73, 74, 75, 76, 77, 78, 79, 80, 81, 82, 83, 84, 85, 86, 87, 88, 117, 118, 119, 120, 121, 122, 123, 124, 125, 126, 127, 128, 129, 130, 131, 132, 133, 134, 135, 136, 137, 138, 139, 140, 141, 142] (by decide +kernel) (by decide +kernel)
set_option maxRecDepth 20000 in
theorem gX10_table_X10_letterHere : GoodIn wsX10_table (wsV RX10 142 RX10 yX10_letterHere wsX10_letterHere) := goodIn_app (goodIn_of _ (by decide +kernel)) ggX10_table_X10_letterHere
set_option maxRecDepth 20000 in
theorem ggX10_table_X10_wasRight : GoodIn wsX10_table wsX10_wasRight := goodIn_r _ [92, 2, 3, 32, 33, 34, 9, 35, 5, 21, 22, 23, 24, 117, 118, 119, 120, 121, 122, 123, 124, 125, 126, 127, 128, 129, 130, 131, 132, 133, 134, 135, 136, 137, 138, 139, 140, 141, 142] (by decide +kernel) (by decide +kernel)
set_option maxRecDepth 20000 in
theorem gX10_table_X10_wasRight : GoodIn wsX10_table (wsV RX10 145 RX10 yX10_wasRight wsX10_wasRight) := goodIn_app (goodIn_of _ (by decide +kernel)) ggX10_table_X10_wasRight
set_option maxRecDepth 20000 in
theorem ggX10_table_X10_change : GoodIn wsX10_table wsX10_change := goodIn_r _ [96, 97, 98, 99, 9, 100, 101, 102, 103, 104, 105, 106, 107, 108, 117, 118, 119, 120, 121, 122, 123, 124, 125, 126, 127, 128, 129, 130, 131, 132, 133, 134, 135, 136, 137, 138, 139, 140, 141, 142] (by decide +kernel) (by decide +kernel)
set_option maxRecDepth 20000 in
theorem gX10_table_X10_change : GoodIn wsX10_table (wsV RX10 148 RX10 yX10_change wsX10_change) := goodIn_app (goodIn_of _ (by decide +kernel)) ggX10_table_X10_change
set_option maxRecDepth 20000 in
theorem ggX10_table_X10_layTable : GoodIn wsX10_table wsX10_layTable := goodIn_r _ [112, 102, 4, 113, 114, 115, 9, 116, 29, 30, 31, 117, 118, 119, 120, 121, 122, 123, 124, 125, 126, 127, 128, 129, 130, 131, 132, 133, 134, 135, 136, 137, 138, 139, 140, 141, 142] (by decide +kernel) (by decide +kernel)
set_option maxRecDepth 20000 in
theorem gX10_table_X10_layTable : GoodIn wsX10_table (wsV RX10 63 RX10 yX10_layTable wsX10_layTable) := goodIn_app (goodIn_of _ (by decide +kernel)) ggX10_table_X10_layTable
theorem dX10_table_0 : decode cX10_table 0 = .ok (.aload_n 0, 1) := by decide +kernel
theorem dX10_table_1 : decode cX10_table 1 = .ok (.iconst 0, 1) := by decide +kernel
theorem dX10_table_2 : decode cX10_table 2 = .ok (.putfield 67, 3) := by decide +kernel
theorem dX10_table_5 : decode cX10_table 5 = .ok (.aload_n 0, 1) := by decide +kernel
theorem dX10_table_6 : decode cX10_table 6 = .ok (.invokevirtual 136, 3) := by decide +kernel
theorem dX10_table_9 : decode cX10_table 9 = .ok (.aload_n 0, 1) := by decide +kernel
theorem dX10_table_10 : decode cX10_table 10 = .ok (.invokevirtual 139, 3) := by decide +kernel
theorem dX10_table_13 : decode cX10_table 13 = .ok (.istore_n 1, 1) := by decide +kernel
theorem dX10_table_14 : decode cX10_table 14 = .ok (.aload_n 0, 1) := by decide +kernel
theorem dX10_table_15 : decode cX10_table 15 = .ok (.invokevirtual 109, 3) := by decide +kernel
theorem dX10_table_18 : decode cX10_table 18 = .ok (.ifCond .eq 19, 3) := by decide +kernel
theorem dX10_table_21 : decode cX10_table 21 = .ok (.iload_n 1, 1) := by decide +kernel
theorem dX10_table_22 : decode cX10_table 22 = .ok (.bipush 16, 2) := by decide +kernel
theorem dX10_table_24 : decode cX10_table 24 = .ok (.if_icmp .le 13, 3) := by decide +kernel
theorem dX10_table_27 : decode cX10_table 27 = .ok (.aload_n 0, 1) := by decide +kernel
theorem dX10_table_28 : decode cX10_table 28 = .ok (.aload_n 0, 1) := by decide +kernel
theorem dX10_table_29 : decode cX10_table 29 = .ok (.getfield 103, 3) := by decide +kernel
theorem dX10_table_32 : decode cX10_table 32 = .ok (.iconst 1, 1) := by decide +kernel
theorem dX10_table_33 : decode cX10_table 33 = .ok (.isub, 1) := by decide +kernel
theorem dX10_table_34 : decode cX10_table 34 = .ok (.invokevirtual 116, 3) := by decide +kernel
theorem dX10_table_37 : decode cX10_table 37 = .ok (.iconst 0, 1) := by decide +kernel
theorem dX10_table_38 : decode cX10_table 38 = .ok (.istore_n 2, 1) := by decide +kernel
theorem dX10_table_39 : decode cX10_table 39 = .ok (.aload_n 0, 1) := by decide +kernel
theorem dX10_table_40 : decode cX10_table 40 = .ok (.invokevirtual 109, 3) := by decide +kernel
theorem dX10_table_43 : decode cX10_table 43 = .ok (.ifCond .eq 64, 3) := by decide +kernel
theorem dX10_table_46 : decode cX10_table 46 = .ok (.aload_n 0, 1) := by decide +kernel
theorem dX10_table_47 : decode cX10_table 47 = .ok (.getfield 103, 3) := by decide +kernel
theorem dX10_table_50 : decode cX10_table 50 = .ok (.aload_n 0, 1) := by decide +kernel
theorem dX10_table_51 : decode cX10_table 51 = .ok (.getfield 100, 3) := by decide +kernel
theorem dX10_table_54 : decode cX10_table 54 = .ok (.if_icmp .ge 53, 3) := by decide +kernel
theorem dX10_table_57 : decode cX10_table 57 = .ok (.aload_n 0, 1) := by decide +kernel
theorem dX10_table_58 : decode cX10_table 58 = .ok (.invokevirtual 142, 3) := by decide +kernel
theorem dX10_table_61 : decode cX10_table 61 = .ok (.istore_n 3, 1) := by decide +kernel
theorem dX10_table_62 : decode cX10_table 62 = .ok (.iload_n 3, 1) := by decide +kernel
theorem dX10_table_63 : decode cX10_table 63 = .ok (.iconst (-1), 1) := by decide +kernel
theorem dX10_table_64 : decode cX10_table 64 = .ok (.if_icmp .eq 9, 3) := by decide +kernel
theorem dX10_table_67 : decode cX10_table 67 = .ok (.iload_n 2, 1) := by decide +kernel
theorem dX10_table_68 : decode cX10_table 68 = .ok (.bipush 6, 2) := by decide +kernel
theorem dX10_table_70 : decode cX10_table 70 = .ok (.if_icmp .ne 14, 3) := by decide +kernel
theorem dX10_table_73 : decode cX10_table 73 = .ok (.aload_n 0, 1) := by decide +kernel
theorem dX10_table_74 : decode cX10_table 74 = .ok (.aload_n 0, 1) := by decide +kernel
theorem dX10_table_75 : decode cX10_table 75 = .ok (.getfield 103, 3) := by decide +kernel
theorem dX10_table_78 : decode cX10_table 78 = .ok (.invokevirtual 116, 3) := by decide +kernel
theorem dX10_table_81 : decode cX10_table 81 = .ok (.goto (-42), 3) := by decide +kernel
theorem dX10_table_84 : decode cX10_table 84 = .ok (.aload_n 0, 1) := by decide +kernel
theorem dX10_table_85 : decode cX10_table 85 = .ok (.getfield 22, 3) := by decide +kernel
theorem dX10_table_88 : decode cX10_table 88 = .ok (.iload_n 2, 1) := by decide +kernel
theorem dX10_table_89 : decode cX10_table 89 = .ok (.iload_n 3, 1) := by decide +kernel
theorem dX10_table_90 : decode cX10_table 90 = .ok (.iastore, 1) := by decide +kernel
theorem dX10_table_91 : decode cX10_table 91 = .ok (.iinc 2 1, 3) := by decide +kernel
theorem dX10_table_94 : decode cX10_table 94 = .ok (.aload_n 0, 1) := by decide +kernel
theorem dX10_table_95 : decode cX10_table 95 = .ok (.dup, 1) := by decide +kernel
theorem dX10_table_96 : decode cX10_table 96 = .ok (.getfield 103, 3) := by decide +kernel
theorem dX10_table_99 : decode cX10_table 99 = .ok (.iconst 1, 1) := by decide +kernel
theorem dX10_table_100 : decode cX10_table 100 = .ok (.iadd, 1) := by decide +kernel
theorem dX10_table_101 : decode cX10_table 101 = .ok (.putfield 103, 3) := by decide +kernel
theorem dX10_table_104 : decode cX10_table 104 = .ok (.goto (-65), 3) := by decide +kernel
theorem dX10_table_107 : decode cX10_table 107 = .ok (.aload_n 0, 1) := by decide +kernel
theorem dX10_table_108 : decode cX10_table 108 = .ok (.invokevirtual 145, 3) := by decide +kernel
theorem dX10_table_111 : decode cX10_table 111 = .ok (.ifCond .ne 10, 3) := by decide +kernel
theorem dX10_table_114 : decode cX10_table 114 = .ok (.iconst (-1), 1) := by decide +kernel
theorem dX10_table_115 : decode cX10_table 115 = .ok (.aload_n 0, 1) := by decide +kernel
theorem dX10_table_116 : decode cX10_table 116 = .ok (.getfield 106, 3) := by decide +kernel
theorem dX10_table_119 : decode cX10_table 119 = .ok (.isub, 1) := by decide +kernel
theorem dX10_table_120 : decode cX10_table 120 = .ok (.ireturn, 1) := by decide +kernel
theorem dX10_table_121 : decode cX10_table 121 = .ok (.aload_n 0, 1) := by decide +kernel
theorem dX10_table_122 : decode cX10_table 122 = .ok (.invokevirtual 148, 3) := by decide +kernel
theorem dX10_table_125 : decode cX10_table 125 = .ok (.aload_n 0, 1) := by decide +kernel
theorem dX10_table_126 : decode cX10_table 126 = .ok (.iload_n 1, 1) := by decide +kernel
theorem dX10_table_127 : decode cX10_table 127 = .ok (.iload_n 2, 1) := by decide +kernel
theorem dX10_table_128 : decode cX10_table 128 = .ok (.invokevirtual 63, 3) := by decide +kernel
theorem dX10_table_131 : decode cX10_table 131 = .ok (.iload_n 2, 1) := by decide +kernel
theorem dX10_table_132 : decode cX10_table 132 = .ok (.ireturn, 1) := by decide +kernel
set_option maxRecDepth 20000 in
theorem ggX10_sheet_X10_isColumn : GoodIn wsX10_sheet wsX10_isColumn := goodIn_r _ [6, 7, 8, 9, 5, 10, 11, 12, 13, 14, 104, 105, 106, 107, 108, 109, 110, 111, 112, 113, 114, 115, 116, 117, 118, 119, 120, 121, 122, 123, 124, 125, 126, 127, 128, 129] (by decide +kernel) (by decide +kernel)
set_option maxRecDepth 20000 in
theorem gX10_sheet_X10_isColumn : GoodIn wsX10_sheet (wsV RX10 85 RX10 yX10_isColumn wsX10_isColumn) := goodIn_app (goodIn_of _ (by decide +kernel)) ggX10_sheet_X10_isColumn
set_option maxRecDepth 20000 in
theorem ggX10_sheet_X10_isWay : GoodIn wsX10_sheet wsX10_isWay := goodIn_r _ [17, 12, 13, 5, 14] (by decide +kernel) (by decide +kernel)
set_option maxRecDepth 20000 in
theorem gX10_sheet_X10_isWay : GoodIn wsX10_sheet (va_wsS RX10 151 yX10_isWay wsX10_isWay) := goodIn_app (goodIn_of _ (by decide +kernel)) ggX10_sheet_X10_isWay
set_option maxRecDepth 20000 in
theorem ggX10_sheet_X10_in : GoodIn wsX10_sheet wsX10_in := goodIn_r _ [14] (by decide +kernel) (by decide +kernel)
set_option maxRecDepth 20000 in
theorem gX10_sheet_X10_in : GoodIn wsX10_sheet (va_wsS RX10 78 yX10_in wsX10_in) := goodIn_app (goodIn_of _ (by decide +kernel)) ggX10_sheet_X10_in
set_option maxRecDepth 20000 in
theorem ggX10_sheet_X10_puts : GoodIn wsX10_sheet wsX10_puts := goodIn_r _ [21, 22, 23, 24, 5, 25, 11, 26, 27, 28, 29, 30, 31, 32, 33, 34, 35, 36, 37, 38, 39, 40, 41, 42, 43, 44, 45, 46, 47, 48, 49, 50, 51, 52, 12, 13, 14, 53, 54, 55, 56, 57, 58, 59, 60, 61, 62, 63, 64, 65, 66, 67, 68, 69, 70, 71, 72, 73, 74, 75, 76, 77, 78, 79, 80, 81, 82, 83, 84, 85, 86, 87, 88, 89, 90, 91, 92, 93, 94, 95, 96, 97, 98, 99, 100, 101, 102, 103, 104, 105, 106, 107, 108, 109, 110, 111, 112, 113, 114, 115, 116, 117, 118, 119, 120, 121, 122, 123, 124, 125, 126, 127, 128, 129] (by decide +kernel) (by decide +kernel)
set_option maxRecDepth 20000 in
theorem gX10_sheet_X10_puts : GoodIn wsX10_sheet (wsV RX10 154 RX10 yX10_puts wsX10_puts) := goodIn_app (goodIn_of _ (by decide +kernel)) ggX10_sheet_X10_puts
theorem dX10_sheet_0 : decode cX10_sheet 0 = .ok (.aload_n 0, 1) := by decide +kernel
theorem dX10_sheet_1 : decode cX10_sheet 1 = .ok (.iconst 0, 1) := by decide +kernel
theorem dX10_sheet_2 : decode cX10_sheet 2 = .ok (.putfield 67, 3) := by decide +kernel
theorem dX10_sheet_5 : decode cX10_sheet 5 = .ok (.aload_n 0, 1) := by decide +kernel
theorem dX10_sheet_6 : decode cX10_sheet 6 = .ok (.iload_n 1, 1) := by decide +kernel
theorem dX10_sheet_7 : decode cX10_sheet 7 = .ok (.invokevirtual 85, 3) := by decide +kernel
theorem dX10_sheet_10 : decode cX10_sheet 10 = .ok (.ifCond .eq 26, 3) := by decide +kernel
theorem dX10_sheet_13 : decode cX10_sheet 13 = .ok (.iload_n 2, 1) := by decide +kernel
theorem dX10_sheet_14 : decode cX10_sheet 14 = .ok (.invokestatic 151, 3) := by decide +kernel
theorem dX10_sheet_17 : decode cX10_sheet 17 = .ok (.ifCond .eq 19, 3) := by decide +kernel
theorem dX10_sheet_20 : decode cX10_sheet 20 = .ok (.iload_n 3, 1) := by decide +kernel
theorem dX10_sheet_21 : decode cX10_sheet 21 = .ok (.iconst 0, 1) := by decide +kernel
theorem dX10_sheet_22 : decode cX10_sheet 22 = .ok (.iconst 3, 1) := by decide +kernel
theorem dX10_sheet_23 : decode cX10_sheet 23 = .ok (.invokestatic 78, 3) := by decide +kernel
theorem dX10_sheet_26 : decode cX10_sheet 26 = .ok (.ifCond .eq 10, 3) := by decide +kernel
theorem dX10_sheet_29 : decode cX10_sheet 29 = .ok (.iload 4, 2) := by decide +kernel
theorem dX10_sheet_31 : decode cX10_sheet 31 = .ok (.bipush 16, 2) := by decide +kernel
theorem dX10_sheet_33 : decode cX10_sheet 33 = .ok (.if_icmp .le 5, 3) := by decide +kernel
theorem dX10_sheet_36 : decode cX10_sheet 36 = .ok (.iconst (-1), 1) := by decide +kernel
theorem dX10_sheet_37 : decode cX10_sheet 37 = .ok (.ireturn, 1) := by decide +kernel
theorem dX10_sheet_38 : decode cX10_sheet 38 = .ok (.iload_n 3, 1) := by decide +kernel
theorem dX10_sheet_39 : decode cX10_sheet 39 = .ok (.iconst 3, 1) := by decide +kernel
theorem dX10_sheet_40 : decode cX10_sheet 40 = .ok (.if_icmp .ne 6, 3) := by decide +kernel
theorem dX10_sheet_43 : decode cX10_sheet 43 = .ok (.bipush (-3), 2) := by decide +kernel
theorem dX10_sheet_45 : decode cX10_sheet 45 = .ok (.ireturn, 1) := by decide +kernel
theorem dX10_sheet_46 : decode cX10_sheet 46 = .ok (.iload 4, 2) := by decide +kernel
theorem dX10_sheet_48 : decode cX10_sheet 48 = .ok (.ifCond .ge 6, 3) := by decide +kernel
theorem dX10_sheet_51 : decode cX10_sheet 51 = .ok (.bipush (-2), 2) := by decide +kernel
theorem dX10_sheet_53 : decode cX10_sheet 53 = .ok (.ireturn, 1) := by decide +kernel
theorem dX10_sheet_54 : decode cX10_sheet 54 = .ok (.iconst 0, 1) := by decide +kernel
theorem dX10_sheet_55 : decode cX10_sheet 55 = .ok (.istore 7, 2) := by decide +kernel
theorem dX10_sheet_57 : decode cX10_sheet 57 = .ok (.iload 5, 2) := by decide +kernel
theorem dX10_sheet_59 : decode cX10_sheet 59 = .ok (.istore 8, 2) := by decide +kernel
theorem dX10_sheet_61 : decode cX10_sheet 61 = .ok (.iconst 0, 1) := by decide +kernel
theorem dX10_sheet_62 : decode cX10_sheet 62 = .ok (.istore 9, 2) := by decide +kernel
theorem dX10_sheet_64 : decode cX10_sheet 64 = .ok (.iload 9, 2) := by decide +kernel
theorem dX10_sheet_66 : decode cX10_sheet 66 = .ok (.iload 4, 2) := by decide +kernel
theorem dX10_sheet_68 : decode cX10_sheet 68 = .ok (.if_icmp .ge 57, 3) := by decide +kernel
theorem dX10_sheet_71 : decode cX10_sheet 71 = .ok (.iload_n 3, 1) := by decide +kernel
theorem dX10_sheet_72 : decode cX10_sheet 72 = .ok (.ifCond .ne 9, 3) := by decide +kernel
theorem dX10_sheet_75 : decode cX10_sheet 75 = .ok (.iload 8, 2) := by decide +kernel
theorem dX10_sheet_77 : decode cX10_sheet 77 = .ok (.i2b, 1) := by decide +kernel
theorem dX10_sheet_78 : decode cX10_sheet 78 = .ok (.goto 16, 3) := by decide +kernel
theorem dX10_sheet_81 : decode cX10_sheet 81 = .ok (.iload_n 3, 1) := by decide +kernel
theorem dX10_sheet_82 : decode cX10_sheet 82 = .ok (.iconst 1, 1) := by decide +kernel
theorem dX10_sheet_83 : decode cX10_sheet 83 = .ok (.if_icmp .ne 9, 3) := by decide +kernel
theorem dX10_sheet_86 : decode cX10_sheet 86 = .ok (.iload 8, 2) := by decide +kernel
theorem dX10_sheet_88 : decode cX10_sheet 88 = .ok (.i2s, 1) := by decide +kernel
theorem dX10_sheet_89 : decode cX10_sheet 89 = .ok (.goto 5, 3) := by decide +kernel
theorem dX10_sheet_92 : decode cX10_sheet 92 = .ok (.iload 8, 2) := by decide +kernel
theorem dX10_sheet_94 : decode cX10_sheet 94 = .ok (.istore 10, 2) := by decide +kernel
theorem dX10_sheet_96 : decode cX10_sheet 96 = .ok (.aload_n 0, 1) := by decide +kernel
theorem dX10_sheet_97 : decode cX10_sheet 97 = .ok (.iload_n 1, 1) := by decide +kernel
theorem dX10_sheet_98 : decode cX10_sheet 98 = .ok (.iload 9, 2) := by decide +kernel
theorem dX10_sheet_100 : decode cX10_sheet 100 = .ok (.iload_n 2, 1) := by decide +kernel
theorem dX10_sheet_101 : decode cX10_sheet 101 = .ok (.iload 10, 2) := by decide +kernel
theorem dX10_sheet_103 : decode cX10_sheet 103 = .ok (.invokevirtual 154, 3) := by decide +kernel
theorem dX10_sheet_106 : decode cX10_sheet 106 = .ok (.ifCond .ne 6, 3) := by decide +kernel
theorem dX10_sheet_109 : decode cX10_sheet 109 = .ok (.iinc 7 1, 3) := by decide +kernel
theorem dX10_sheet_112 : decode cX10_sheet 112 = .ok (.iload 8, 2) := by decide +kernel
theorem dX10_sheet_114 : decode cX10_sheet 114 = .ok (.iload 6, 2) := by decide +kernel
theorem dX10_sheet_116 : decode cX10_sheet 116 = .ok (.iadd, 1) := by decide +kernel
theorem dX10_sheet_117 : decode cX10_sheet 117 = .ok (.istore 8, 2) := by decide +kernel
theorem dX10_sheet_119 : decode cX10_sheet 119 = .ok (.iinc 9 1, 3) := by decide +kernel
theorem dX10_sheet_122 : decode cX10_sheet 122 = .ok (.goto (-58), 3) := by decide +kernel
theorem dX10_sheet_125 : decode cX10_sheet 125 = .ok (.iload 7, 2) := by decide +kernel
theorem dX10_sheet_127 : decode cX10_sheet 127 = .ok (.ireturn, 1) := by decide +kernel
set_option maxRecDepth 20000 in
theorem ggX10_toldBy_Jxf58ca_floatToIntBits_5c35a : GoodIn wsX10_toldBy wsJxf58ca_floatToIntBits_5c35a := goodIn_r _ [7, 8, 9, 10, 11, 12, 13, 14, 6, 15] (by decide +kernel) (by decide +kernel)
set_option maxRecDepth 20000 in
theorem gX10_toldBy_Jxf58ca_floatToIntBits_5c35a : GoodIn wsX10_toldBy (va_wsS RX10 161 yJxf58ca_floatToIntBits_5c35a wsJxf58ca_floatToIntBits_5c35a) := goodIn_app (goodIn_of _ (by decide +kernel)) ggX10_toldBy_Jxf58ca_floatToIntBits_5c35a
set_option maxRecDepth 20000 in
theorem ggX10_toldBy_Jxe99ae_doubleToLongBits_ccdee : GoodIn wsX10_toldBy wsJxe99ae_doubleToLongBits_ccdee := goodIn_r _ [19, 20, 21, 22, 23, 24, 25, 26, 18, 27] (by decide +kernel) (by decide +kernel)
set_option maxRecDepth 20000 in
theorem gX10_toldBy_Jxe99ae_doubleToLongBits_ccdee : GoodIn wsX10_toldBy (va_wsS RX10 169 yJxe99ae_doubleToLongBits_ccdee wsJxe99ae_doubleToLongBits_ccdee) := goodIn_app (goodIn_of _ (by decide +kernel)) ggX10_toldBy_Jxe99ae_doubleToLongBits_ccdee
theorem dX10_toldBy_0 : decode cX10_toldBy 0 = .ok (.iload_n 0, 1) := by decide +kernel
theorem dX10_toldBy_1 : decode cX10_toldBy 1 = .ok (.tableswitch 80 0 6 #[43, 48, 52, 56, 60, 63, 70], 43) := by decide +kernel
theorem dX10_toldBy_44 : decode cX10_toldBy 44 = .ok (.iload_n 1, 1) := by decide +kernel
theorem dX10_toldBy_45 : decode cX10_toldBy 45 = .ok (.iconst 1, 1) := by decide +kernel
theorem dX10_toldBy_46 : decode cX10_toldBy 46 = .ok (.iand, 1) := by decide +kernel
theorem dX10_toldBy_47 : decode cX10_toldBy 47 = .ok (.i2l, 1) := by decide +kernel
theorem dX10_toldBy_48 : decode cX10_toldBy 48 = .ok (.lreturn, 1) := by decide +kernel
theorem dX10_toldBy_49 : decode cX10_toldBy 49 = .ok (.iload_n 1, 1) := by decide +kernel
theorem dX10_toldBy_50 : decode cX10_toldBy 50 = .ok (.i2b, 1) := by decide +kernel
theorem dX10_toldBy_51 : decode cX10_toldBy 51 = .ok (.i2l, 1) := by decide +kernel
theorem dX10_toldBy_52 : decode cX10_toldBy 52 = .ok (.lreturn, 1) := by decide +kernel
theorem dX10_toldBy_53 : decode cX10_toldBy 53 = .ok (.iload_n 1, 1) := by decide +kernel
theorem dX10_toldBy_54 : decode cX10_toldBy 54 = .ok (.i2c, 1) := by decide +kernel
theorem dX10_toldBy_55 : decode cX10_toldBy 55 = .ok (.i2l, 1) := by decide +kernel
theorem dX10_toldBy_56 : decode cX10_toldBy 56 = .ok (.lreturn, 1) := by decide +kernel
theorem dX10_toldBy_57 : decode cX10_toldBy 57 = .ok (.iload_n 1, 1) := by decide +kernel
theorem dX10_toldBy_58 : decode cX10_toldBy 58 = .ok (.i2s, 1) := by decide +kernel
theorem dX10_toldBy_59 : decode cX10_toldBy 59 = .ok (.i2l, 1) := by decide +kernel
theorem dX10_toldBy_60 : decode cX10_toldBy 60 = .ok (.lreturn, 1) := by decide +kernel
theorem dX10_toldBy_61 : decode cX10_toldBy 61 = .ok (.iload_n 1, 1) := by decide +kernel
theorem dX10_toldBy_62 : decode cX10_toldBy 62 = .ok (.i2l, 1) := by decide +kernel
theorem dX10_toldBy_63 : decode cX10_toldBy 63 = .ok (.lreturn, 1) := by decide +kernel
theorem dX10_toldBy_64 : decode cX10_toldBy 64 = .ok (.iload_n 1, 1) := by decide +kernel
theorem dX10_toldBy_65 : decode cX10_toldBy 65 = .ok (.i2l, 1) := by decide +kernel
theorem dX10_toldBy_66 : decode cX10_toldBy 66 = .ok (.ldc2_w 158, 3) := by decide +kernel
theorem dX10_toldBy_69 : decode cX10_toldBy 69 = .ok (.lmul, 1) := by decide +kernel
theorem dX10_toldBy_70 : decode cX10_toldBy 70 = .ok (.lreturn, 1) := by decide +kernel
theorem dX10_toldBy_71 : decode cX10_toldBy 71 = .ok (.iload_n 1, 1) := by decide +kernel
theorem dX10_toldBy_72 : decode cX10_toldBy 72 = .ok (.i2f, 1) := by decide +kernel
theorem dX10_toldBy_73 : decode cX10_toldBy 73 = .ok (.ldc 160, 2) := by decide +kernel
theorem dX10_toldBy_75 : decode cX10_toldBy 75 = .ok (.fdiv, 1) := by decide +kernel
theorem dX10_toldBy_76 : decode cX10_toldBy 76 = .ok (.invokestatic 161, 3) := by decide +kernel
theorem dX10_toldBy_79 : decode cX10_toldBy 79 = .ok (.i2l, 1) := by decide +kernel
theorem dX10_toldBy_80 : decode cX10_toldBy 80 = .ok (.lreturn, 1) := by decide +kernel
theorem dX10_toldBy_81 : decode cX10_toldBy 81 = .ok (.iload_n 1, 1) := by decide +kernel
theorem dX10_toldBy_82 : decode cX10_toldBy 82 = .ok (.i2d, 1) := by decide +kernel
theorem dX10_toldBy_83 : decode cX10_toldBy 83 = .ok (.ldc2_w 167, 3) := by decide +kernel
theorem dX10_toldBy_86 : decode cX10_toldBy 86 = .ok (.ddiv, 1) := by decide +kernel
theorem dX10_toldBy_87 : decode cX10_toldBy 87 = .ok (.invokestatic 169, 3) := by decide +kernel
theorem dX10_toldBy_90 : decode cX10_toldBy 90 = .ok (.lreturn, 1) := by decide +kernel
theorem dX10_widens_0 : decode cX10_widens 0 = .ok (.getstatic 175, 3) := by decide +kernel
theorem dX10_widens_3 : decode cX10_widens 3 = .ok (.iload_n 0, 1) := by decide +kernel
theorem dX10_widens_4 : decode cX10_widens 4 = .ok (.iaload, 1) := by decide +kernel
theorem dX10_widens_5 : decode cX10_widens 5 = .ok (.iload_n 1, 1) := by decide +kernel
theorem dX10_widens_6 : decode cX10_widens 6 = .ok (.ishr, 1) := by decide +kernel
theorem dX10_widens_7 : decode cX10_widens 7 = .ok (.iconst 1, 1) := by decide +kernel
theorem dX10_widens_8 : decode cX10_widens 8 = .ok (.iand, 1) := by decide +kernel
theorem dX10_widens_9 : decode cX10_widens 9 = .ok (.iconst 1, 1) := by decide +kernel
theorem dX10_widens_10 : decode cX10_widens 10 = .ok (.if_icmp .ne 7, 3) := by decide +kernel
theorem dX10_widens_13 : decode cX10_widens 13 = .ok (.iconst 1, 1) := by decide +kernel
theorem dX10_widens_14 : decode cX10_widens 14 = .ok (.goto 4, 3) := by decide +kernel
theorem dX10_widens_17 : decode cX10_widens 17 = .ok (.iconst 0, 1) := by decide +kernel
theorem dX10_widens_18 : decode cX10_widens 18 = .ok (.ireturn, 1) := by decide +kernel
set_option maxRecDepth 20000 in
theorem ggX10_widened_Jxf58ca_floatToIntBits_5c35a : GoodIn wsX10_widened wsJxf58ca_floatToIntBits_5c35a := goodIn_r _ [8, 9, 10, 11, 4, 12, 13, 14, 7, 15] (by decide +kernel) (by decide +kernel)
set_option maxRecDepth 20000 in
theorem gX10_widened_Jxf58ca_floatToIntBits_5c35a : GoodIn wsX10_widened (va_wsS RX10 161 yJxf58ca_floatToIntBits_5c35a wsJxf58ca_floatToIntBits_5c35a) := goodIn_app (goodIn_of _ (by decide +kernel)) ggX10_widened_Jxf58ca_floatToIntBits_5c35a
set_option maxRecDepth 20000 in
theorem ggX10_widened_Jxe99ae_doubleToLongBits_ccdee : GoodIn wsX10_widened wsJxe99ae_doubleToLongBits_ccdee := goodIn_r _ [19, 20, 21, 22, 23, 24, 25, 26, 18, 27] (by decide +kernel) (by decide +kernel)
set_option maxRecDepth 20000 in
theorem gX10_widened_Jxe99ae_doubleToLongBits_ccdee : GoodIn wsX10_widened (va_wsS RX10 169 yJxe99ae_doubleToLongBits_ccdee wsJxe99ae_doubleToLongBits_ccdee) := goodIn_app (goodIn_of _ (by decide +kernel)) ggX10_widened_Jxe99ae_doubleToLongBits_ccdee
theorem dX10_widened_0 : decode cX10_widened 0 = .ok (.iload_n 2, 1) := by decide +kernel
theorem dX10_widened_1 : decode cX10_widened 1 = .ok (.iload_n 3, 1) := by decide +kernel
theorem dX10_widened_2 : decode cX10_widened 2 = .ok (.if_icmp .eq 9, 3) := by decide +kernel
theorem dX10_widened_5 : decode cX10_widened 5 = .ok (.iload_n 3, 1) := by decide +kernel
theorem dX10_widened_6 : decode cX10_widened 6 = .ok (.bipush 6, 2) := by decide +kernel
theorem dX10_widened_8 : decode cX10_widened 8 = .ok (.if_icmp .ge 5, 3) := by decide +kernel
theorem dX10_widened_11 : decode cX10_widened 11 = .ok (.lload_n 0, 1) := by decide +kernel
theorem dX10_widened_12 : decode cX10_widened 12 = .ok (.lreturn, 1) := by decide +kernel
theorem dX10_widened_13 : decode cX10_widened 13 = .ok (.iload_n 3, 1) := by decide +kernel
theorem dX10_widened_14 : decode cX10_widened 14 = .ok (.bipush 6, 2) := by decide +kernel
theorem dX10_widened_16 : decode cX10_widened 16 = .ok (.if_icmp .ne 10, 3) := by decide +kernel
theorem dX10_widened_19 : decode cX10_widened 19 = .ok (.lload_n 0, 1) := by decide +kernel
theorem dX10_widened_20 : decode cX10_widened 20 = .ok (.l2f, 1) := by decide +kernel
theorem dX10_widened_21 : decode cX10_widened 21 = .ok (.invokestatic 161, 3) := by decide +kernel
theorem dX10_widened_24 : decode cX10_widened 24 = .ok (.i2l, 1) := by decide +kernel
theorem dX10_widened_25 : decode cX10_widened 25 = .ok (.lreturn, 1) := by decide +kernel
theorem dX10_widened_26 : decode cX10_widened 26 = .ok (.iload_n 2, 1) := by decide +kernel
theorem dX10_widened_27 : decode cX10_widened 27 = .ok (.bipush 6, 2) := by decide +kernel
theorem dX10_widened_29 : decode cX10_widened 29 = .ok (.if_icmp .ne 12, 3) := by decide +kernel
theorem dX10_widened_32 : decode cX10_widened 32 = .ok (.lload_n 0, 1) := by decide +kernel
theorem dX10_widened_33 : decode cX10_widened 33 = .ok (.l2i, 1) := by decide +kernel
theorem dX10_widened_34 : decode cX10_widened 34 = .ok (.invokestatic 178, 3) := by decide +kernel
theorem dX10_widened_37 : decode cX10_widened 37 = .ok (.f2d, 1) := by decide +kernel
theorem dX10_widened_38 : decode cX10_widened 38 = .ok (.goto 5, 3) := by decide +kernel
theorem dX10_widened_41 : decode cX10_widened 41 = .ok (.lload_n 0, 1) := by decide +kernel
theorem dX10_widened_42 : decode cX10_widened 42 = .ok (.l2d, 1) := by decide +kernel
theorem dX10_widened_43 : decode cX10_widened 43 = .ok (.invokestatic 169, 3) := by decide +kernel
theorem dX10_widened_46 : decode cX10_widened 46 = .ok (.lreturn, 1) := by decide +kernel
set_option maxRecDepth 20000 in
theorem ggX10_whyNoRow_X10_kindOf : GoodIn wsX10_whyNoRow wsX10_kindOf := goodIn_r _ [5, 6, 7, 8, 9, 10, 11, 12, 13, 14, 15, 16, 17, 18, 19, 20, 21, 22, 23, 24, 25, 26, 27, 28, 29, 30, 31, 32] (by decide +kernel) (by decide +kernel)
set_option maxRecDepth 20000 in
theorem gX10_whyNoRow_X10_kindOf : GoodIn wsX10_whyNoRow (wsV RX10 89 RX10 yX10_kindOf wsX10_kindOf) := goodIn_app (goodIn_of _ (by decide +kernel)) ggX10_whyNoRow_X10_kindOf
theorem dX10_whyNoRow_0 : decode cX10_whyNoRow 0 = .ok (.aload_n 0, 1) := by decide +kernel
theorem dX10_whyNoRow_1 : decode cX10_whyNoRow 1 = .ok (.iload_n 1, 1) := by decide +kernel
theorem dX10_whyNoRow_2 : decode cX10_whyNoRow 2 = .ok (.invokevirtual 89, 3) := by decide +kernel
theorem dX10_whyNoRow_5 : decode cX10_whyNoRow 5 = .ok (.bipush 11, 2) := by decide +kernel
theorem dX10_whyNoRow_7 : decode cX10_whyNoRow 7 = .ok (.if_icmp .ne 7, 3) := by decide +kernel
theorem dX10_whyNoRow_10 : decode cX10_whyNoRow 10 = .ok (.iconst 2, 1) := by decide +kernel
theorem dX10_whyNoRow_11 : decode cX10_whyNoRow 11 = .ok (.goto 18, 3) := by decide +kernel
theorem dX10_whyNoRow_14 : decode cX10_whyNoRow 14 = .ok (.aload_n 0, 1) := by decide +kernel
theorem dX10_whyNoRow_15 : decode cX10_whyNoRow 15 = .ok (.iload_n 1, 1) := by decide +kernel
theorem dX10_whyNoRow_16 : decode cX10_whyNoRow 16 = .ok (.invokevirtual 89, 3) := by decide +kernel
theorem dX10_whyNoRow_19 : decode cX10_whyNoRow 19 = .ok (.bipush 12, 2) := by decide +kernel
theorem dX10_whyNoRow_21 : decode cX10_whyNoRow 21 = .ok (.if_icmp .lt 7, 3) := by decide +kernel
theorem dX10_whyNoRow_24 : decode cX10_whyNoRow 24 = .ok (.iconst 3, 1) := by decide +kernel
theorem dX10_whyNoRow_25 : decode cX10_whyNoRow 25 = .ok (.goto 4, 3) := by decide +kernel
theorem dX10_whyNoRow_28 : decode cX10_whyNoRow 28 = .ok (.iconst 0, 1) := by decide +kernel
theorem dX10_whyNoRow_29 : decode cX10_whyNoRow 29 = .ok (.ireturn, 1) := by decide +kernel
set_option maxRecDepth 20000 in
theorem ggX10_whyNot_X10_whyNoRow : GoodIn wsX10_whyNot wsX10_whyNoRow := goodIn_r _ [5, 6, 7, 8, 4, 9, 10, 22, 23, 24, 25, 26, 27, 28, 29, 30, 31, 32, 33, 34, 35, 36, 37, 38, 39, 40, 41, 42, 43, 44, 45, 46, 47] (by decide +kernel) (by decide +kernel)
set_option maxRecDepth 20000 in
theorem gX10_whyNot_X10_whyNoRow : GoodIn wsX10_whyNot (wsV RX10 182 RX10 yX10_whyNoRow wsX10_whyNoRow) := goodIn_app (goodIn_of _ (by decide +kernel)) ggX10_whyNot_X10_whyNoRow
set_option maxRecDepth 20000 in
theorem ggX10_whyNot_X10_kindOf : GoodIn wsX10_whyNot wsX10_kindOf := goodIn_r _ [9, 10, 22, 23, 24, 25, 26, 27, 28, 29, 30, 31, 32, 33, 34, 35, 36, 37, 38, 39, 40, 41, 42, 43, 44, 45, 46, 47] (by decide +kernel) (by decide +kernel)
set_option maxRecDepth 20000 in
theorem gX10_whyNot_X10_kindOf : GoodIn wsX10_whyNot (wsV RX10 89 RX10 yX10_kindOf wsX10_kindOf) := goodIn_app (goodIn_of _ (by decide +kernel)) ggX10_whyNot_X10_kindOf
set_option maxRecDepth 20000 in
theorem ggX10_whyNot_X10_isRow : GoodIn wsX10_whyNot wsX10_isRow := goodIn_r _ [14, 15, 16, 17, 4, 18, 10, 19, 20, 21, 22, 23, 24, 25, 26, 27, 28, 29, 30, 31, 32, 33, 34, 35, 36, 37, 38, 39, 40, 41, 42, 43, 44, 45, 46, 47] (by decide +kernel) (by decide +kernel)
set_option maxRecDepth 20000 in
theorem gX10_whyNot_X10_isRow : GoodIn wsX10_whyNot (wsV RX10 185 RX10 yX10_isRow wsX10_isRow) := goodIn_app (goodIn_of _ (by decide +kernel)) ggX10_whyNot_X10_isRow
theorem dX10_whyNot_0 : decode cX10_whyNot 0 = .ok (.aload_n 0, 1) := by decide +kernel
theorem dX10_whyNot_1 : decode cX10_whyNot 1 = .ok (.iload_n 1, 1) := by decide +kernel
theorem dX10_whyNot_2 : decode cX10_whyNot 2 = .ok (.invokevirtual 182, 3) := by decide +kernel
theorem dX10_whyNot_5 : decode cX10_whyNot 5 = .ok (.istore 5, 2) := by decide +kernel
theorem dX10_whyNot_7 : decode cX10_whyNot 7 = .ok (.iload 5, 2) := by decide +kernel
theorem dX10_whyNot_9 : decode cX10_whyNot 9 = .ok (.ifCond .le 6, 3) := by decide +kernel
theorem dX10_whyNot_12 : decode cX10_whyNot 12 = .ok (.iload 5, 2) := by decide +kernel
theorem dX10_whyNot_14 : decode cX10_whyNot 14 = .ok (.ireturn, 1) := by decide +kernel
theorem dX10_whyNot_15 : decode cX10_whyNot 15 = .ok (.iload_n 3, 1) := by decide +kernel
theorem dX10_whyNot_16 : decode cX10_whyNot 16 = .ok (.bipush 8, 2) := by decide +kernel
theorem dX10_whyNot_18 : decode cX10_whyNot 18 = .ok (.if_icmp .ge 15, 3) := by decide +kernel
theorem dX10_whyNot_21 : decode cX10_whyNot 21 = .ok (.aload_n 0, 1) := by decide +kernel
theorem dX10_whyNot_22 : decode cX10_whyNot 22 = .ok (.iload_n 1, 1) := by decide +kernel
theorem dX10_whyNot_23 : decode cX10_whyNot 23 = .ok (.invokevirtual 89, 3) := by decide +kernel
theorem dX10_whyNot_26 : decode cX10_whyNot 26 = .ok (.bipush 8, 2) := by decide +kernel
theorem dX10_whyNot_28 : decode cX10_whyNot 28 = .ok (.if_icmp .lt 5, 3) := by decide +kernel
theorem dX10_whyNot_31 : decode cX10_whyNot 31 = .ok (.iconst 4, 1) := by decide +kernel
theorem dX10_whyNot_32 : decode cX10_whyNot 32 = .ok (.ireturn, 1) := by decide +kernel
theorem dX10_whyNot_33 : decode cX10_whyNot 33 = .ok (.aload_n 0, 1) := by decide +kernel
theorem dX10_whyNot_34 : decode cX10_whyNot 34 = .ok (.iload_n 2, 1) := by decide +kernel
theorem dX10_whyNot_35 : decode cX10_whyNot 35 = .ok (.invokevirtual 185, 3) := by decide +kernel
theorem dX10_whyNot_38 : decode cX10_whyNot 38 = .ok (.ifCond .ne 7, 3) := by decide +kernel
theorem dX10_whyNot_41 : decode cX10_whyNot 41 = .ok (.iconst 5, 1) := by decide +kernel
theorem dX10_whyNot_42 : decode cX10_whyNot 42 = .ok (.goto 14, 3) := by decide +kernel
theorem dX10_whyNot_45 : decode cX10_whyNot 45 = .ok (.iload 4, 2) := by decide +kernel
theorem dX10_whyNot_47 : decode cX10_whyNot 47 = .ok (.ifCond .eq 7, 3) := by decide +kernel
theorem dX10_whyNot_50 : decode cX10_whyNot 50 = .ok (.iconst 0, 1) := by decide +kernel
theorem dX10_whyNot_51 : decode cX10_whyNot 51 = .ok (.goto 5, 3) := by decide +kernel
theorem dX10_whyNot_54 : decode cX10_whyNot 54 = .ok (.bipush 6, 2) := by decide +kernel
theorem dX10_whyNot_56 : decode cX10_whyNot 56 = .ok (.ireturn, 1) := by decide +kernel
theorem dX10_kindOfWay_0 : decode cX10_kindOfWay 0 = .ok (.iload_n 0, 1) := by decide +kernel
theorem dX10_kindOfWay_1 : decode cX10_kindOfWay 1 = .ok (.bipush 8, 2) := by decide +kernel
theorem dX10_kindOfWay_3 : decode cX10_kindOfWay 3 = .ok (.if_icmp .ge 7, 3) := by decide +kernel
theorem dX10_kindOfWay_6 : decode cX10_kindOfWay 6 = .ok (.iload_n 0, 1) := by decide +kernel
theorem dX10_kindOfWay_7 : decode cX10_kindOfWay 7 = .ok (.goto 27, 3) := by decide +kernel
theorem dX10_kindOfWay_10 : decode cX10_kindOfWay 10 = .ok (.iload_n 0, 1) := by decide +kernel
theorem dX10_kindOfWay_11 : decode cX10_kindOfWay 11 = .ok (.bipush 18, 2) := by decide +kernel
theorem dX10_kindOfWay_13 : decode cX10_kindOfWay 13 = .ok (.if_icmp .ne 7, 3) := by decide +kernel
theorem dX10_kindOfWay_16 : decode cX10_kindOfWay 16 = .ok (.iconst 4, 1) := by decide +kernel
theorem dX10_kindOfWay_17 : decode cX10_kindOfWay 17 = .ok (.goto 17, 3) := by decide +kernel
theorem dX10_kindOfWay_20 : decode cX10_kindOfWay 20 = .ok (.iload_n 0, 1) := by decide +kernel
theorem dX10_kindOfWay_21 : decode cX10_kindOfWay 21 = .ok (.bipush 18, 2) := by decide +kernel
theorem dX10_kindOfWay_23 : decode cX10_kindOfWay 23 = .ok (.if_icmp .ge 10, 3) := by decide +kernel
theorem dX10_kindOfWay_26 : decode cX10_kindOfWay 26 = .ok (.iload_n 0, 1) := by decide +kernel
theorem dX10_kindOfWay_27 : decode cX10_kindOfWay 27 = .ok (.bipush 10, 2) := by decide +kernel
theorem dX10_kindOfWay_29 : decode cX10_kindOfWay 29 = .ok (.isub, 1) := by decide +kernel
theorem dX10_kindOfWay_30 : decode cX10_kindOfWay 30 = .ok (.goto 4, 3) := by decide +kernel
theorem dX10_kindOfWay_33 : decode cX10_kindOfWay 33 = .ok (.iconst (-1), 1) := by decide +kernel
theorem dX10_kindOfWay_34 : decode cX10_kindOfWay 34 = .ok (.ireturn, 1) := by decide +kernel
set_option maxRecDepth 20000 in
theorem ggX10_canHold_X10_kindOfWay : GoodIn wsX10_canHold wsX10_kindOfWay := goodIn_r _ [4] (by decide +kernel) (by decide +kernel)
set_option maxRecDepth 20000 in
theorem gX10_canHold_X10_kindOfWay : GoodIn wsX10_canHold (va_wsS RX10 188 yX10_kindOfWay wsX10_kindOfWay) := goodIn_app (goodIn_of _ (by decide +kernel)) ggX10_canHold_X10_kindOfWay
set_option maxRecDepth 20000 in
theorem ggX10_canHold_X10_widens : GoodIn wsX10_canHold wsX10_widens := goodIn_r _ [7, 8] (by decide +kernel) (by decide +kernel)
set_option maxRecDepth 20000 in
theorem gX10_canHold_X10_widens : GoodIn wsX10_canHold (va_wsS RX10 191 yX10_widens wsX10_widens) := goodIn_app (goodIn_of _ (by decide +kernel)) ggX10_canHold_X10_widens
theorem dX10_canHold_0 : decode cX10_canHold 0 = .ok (.iload_n 1, 1) := by decide +kernel
theorem dX10_canHold_1 : decode cX10_canHold 1 = .ok (.bipush 10, 2) := by decide +kernel
theorem dX10_canHold_3 : decode cX10_canHold 3 = .ok (.if_icmp .le 5, 3) := by decide +kernel
theorem dX10_canHold_6 : decode cX10_canHold 6 = .ok (.iconst 0, 1) := by decide +kernel
theorem dX10_canHold_7 : decode cX10_canHold 7 = .ok (.ireturn, 1) := by decide +kernel
theorem dX10_canHold_8 : decode cX10_canHold 8 = .ok (.iload_n 1, 1) := by decide +kernel
theorem dX10_canHold_9 : decode cX10_canHold 9 = .ok (.bipush 8, 2) := by decide +kernel
theorem dX10_canHold_11 : decode cX10_canHold 11 = .ok (.if_icmp .lt 11, 3) := by decide +kernel
theorem dX10_canHold_14 : decode cX10_canHold 14 = .ok (.iload_n 2, 1) := by decide +kernel
theorem dX10_canHold_15 : decode cX10_canHold 15 = .ok (.bipush 21, 2) := by decide +kernel
theorem dX10_canHold_17 : decode cX10_canHold 17 = .ok (.if_icmp .ne 5, 3) := by decide +kernel
theorem dX10_canHold_20 : decode cX10_canHold 20 = .ok (.iconst 1, 1) := by decide +kernel
theorem dX10_canHold_21 : decode cX10_canHold 21 = .ok (.ireturn, 1) := by decide +kernel
theorem dX10_canHold_22 : decode cX10_canHold 22 = .ok (.iload_n 1, 1) := by decide +kernel
theorem dX10_canHold_23 : decode cX10_canHold 23 = .ok (.bipush 9, 2) := by decide +kernel
theorem dX10_canHold_25 : decode cX10_canHold 25 = .ok (.if_icmp .ne 15, 3) := by decide +kernel
theorem dX10_canHold_28 : decode cX10_canHold 28 = .ok (.iload_n 2, 1) := by decide +kernel
theorem dX10_canHold_29 : decode cX10_canHold 29 = .ok (.bipush 19, 2) := by decide +kernel
theorem dX10_canHold_31 : decode cX10_canHold 31 = .ok (.if_icmp .ne 7, 3) := by decide +kernel
theorem dX10_canHold_34 : decode cX10_canHold 34 = .ok (.iconst 1, 1) := by decide +kernel
theorem dX10_canHold_35 : decode cX10_canHold 35 = .ok (.goto 4, 3) := by decide +kernel
theorem dX10_canHold_38 : decode cX10_canHold 38 = .ok (.iconst 0, 1) := by decide +kernel
theorem dX10_canHold_39 : decode cX10_canHold 39 = .ok (.ireturn, 1) := by decide +kernel
theorem dX10_canHold_40 : decode cX10_canHold 40 = .ok (.iload_n 1, 1) := by decide +kernel
theorem dX10_canHold_41 : decode cX10_canHold 41 = .ok (.bipush 10, 2) := by decide +kernel
theorem dX10_canHold_43 : decode cX10_canHold 43 = .ok (.if_icmp .ne 15, 3) := by decide +kernel
theorem dX10_canHold_46 : decode cX10_canHold 46 = .ok (.iload_n 2, 1) := by decide +kernel
theorem dX10_canHold_47 : decode cX10_canHold 47 = .ok (.bipush 20, 2) := by decide +kernel
theorem dX10_canHold_49 : decode cX10_canHold 49 = .ok (.if_icmp .ne 7, 3) := by decide +kernel
theorem dX10_canHold_52 : decode cX10_canHold 52 = .ok (.iconst 1, 1) := by decide +kernel
theorem dX10_canHold_53 : decode cX10_canHold 53 = .ok (.goto 4, 3) := by decide +kernel
theorem dX10_canHold_56 : decode cX10_canHold 56 = .ok (.iconst 0, 1) := by decide +kernel
theorem dX10_canHold_57 : decode cX10_canHold 57 = .ok (.ireturn, 1) := by decide +kernel
theorem dX10_canHold_58 : decode cX10_canHold 58 = .ok (.iload_n 2, 1) := by decide +kernel
theorem dX10_canHold_59 : decode cX10_canHold 59 = .ok (.invokestatic 188, 3) := by decide +kernel
theorem dX10_canHold_62 : decode cX10_canHold 62 = .ok (.istore_n 3, 1) := by decide +kernel
theorem dX10_canHold_63 : decode cX10_canHold 63 = .ok (.iload_n 1, 1) := by decide +kernel
theorem dX10_canHold_64 : decode cX10_canHold 64 = .ok (.bipush 8, 2) := by decide +kernel
theorem dX10_canHold_66 : decode cX10_canHold 66 = .ok (.if_icmp .ne 20, 3) := by decide +kernel
theorem dX10_canHold_69 : decode cX10_canHold 69 = .ok (.iload_n 3, 1) := by decide +kernel
theorem dX10_canHold_70 : decode cX10_canHold 70 = .ok (.iconst 4, 1) := by decide +kernel
theorem dX10_canHold_71 : decode cX10_canHold 71 = .ok (.if_icmp .ne 13, 3) := by decide +kernel
theorem dX10_canHold_74 : decode cX10_canHold 74 = .ok (.iload_n 2, 1) := by decide +kernel
theorem dX10_canHold_75 : decode cX10_canHold 75 = .ok (.bipush 7, 2) := by decide +kernel
theorem dX10_canHold_77 : decode cX10_canHold 77 = .ok (.if_icmp .le 7, 3) := by decide +kernel
theorem dX10_canHold_80 : decode cX10_canHold 80 = .ok (.iconst 1, 1) := by decide +kernel
theorem dX10_canHold_81 : decode cX10_canHold 81 = .ok (.goto 4, 3) := by decide +kernel
theorem dX10_canHold_84 : decode cX10_canHold 84 = .ok (.iconst 0, 1) := by decide +kernel
theorem dX10_canHold_85 : decode cX10_canHold 85 = .ok (.ireturn, 1) := by decide +kernel
theorem dX10_canHold_86 : decode cX10_canHold 86 = .ok (.iload_n 3, 1) := by decide +kernel
theorem dX10_canHold_87 : decode cX10_canHold 87 = .ok (.iconst (-1), 1) := by decide +kernel
theorem dX10_canHold_88 : decode cX10_canHold 88 = .ok (.if_icmp .eq 15, 3) := by decide +kernel
theorem dX10_canHold_91 : decode cX10_canHold 91 = .ok (.iload_n 3, 1) := by decide +kernel
theorem dX10_canHold_92 : decode cX10_canHold 92 = .ok (.iload_n 1, 1) := by decide +kernel
theorem dX10_canHold_93 : decode cX10_canHold 93 = .ok (.invokestatic 191, 3) := by decide +kernel
theorem dX10_canHold_96 : decode cX10_canHold 96 = .ok (.ifCond .eq 7, 3) := by decide +kernel
theorem dX10_canHold_99 : decode cX10_canHold 99 = .ok (.iconst 1, 1) := by decide +kernel
theorem dX10_canHold_100 : decode cX10_canHold 100 = .ok (.goto 4, 3) := by decide +kernel
theorem dX10_canHold_103 : decode cX10_canHold 103 = .ok (.iconst 0, 1) := by decide +kernel
theorem dX10_canHold_104 : decode cX10_canHold 104 = .ok (.ireturn, 1) := by decide +kernel
theorem dX10_textOf_0 : decode cX10_textOf 0 = .ok (.iload_n 0, 1) := by decide +kernel
theorem dX10_textOf_1 : decode cX10_textOf 1 = .ok (.ldc 197, 2) := by decide +kernel
theorem dX10_textOf_3 : decode cX10_textOf 3 = .ok (.iand, 1) := by decide +kernel
theorem dX10_textOf_4 : decode cX10_textOf 4 = .ok (.istore_n 1, 1) := by decide +kernel
theorem dX10_textOf_5 : decode cX10_textOf 5 = .ok (.iload_n 1, 1) := by decide +kernel
theorem dX10_textOf_6 : decode cX10_textOf 6 = .ok (.bipush 26, 2) := by decide +kernel
theorem dX10_textOf_8 : decode cX10_textOf 8 = .ok (.irem, 1) := by decide +kernel
theorem dX10_textOf_9 : decode cX10_textOf 9 = .ok (.bipush 26, 2) := by decide +kernel
theorem dX10_textOf_11 : decode cX10_textOf 11 = .ok (.iload_n 1, 1) := by decide +kernel
theorem dX10_textOf_12 : decode cX10_textOf 12 = .ok (.bipush 26, 2) := by decide +kernel
theorem dX10_textOf_14 : decode cX10_textOf 14 = .ok (.idiv, 1) := by decide +kernel
theorem dX10_textOf_15 : decode cX10_textOf 15 = .ok (.iconst 3, 1) := by decide +kernel
theorem dX10_textOf_16 : decode cX10_textOf 16 = .ok (.irem, 1) := by decide +kernel
theorem dX10_textOf_17 : decode cX10_textOf 17 = .ok (.imul, 1) := by decide +kernel
theorem dX10_textOf_18 : decode cX10_textOf 18 = .ok (.iadd, 1) := by decide +kernel
theorem dX10_textOf_19 : decode cX10_textOf 19 = .ok (.i2l, 1) := by decide +kernel
theorem dX10_textOf_20 : decode cX10_textOf 20 = .ok (.lreturn, 1) := by decide +kernel
set_option maxRecDepth 20000 in
theorem ggX10_store_X10_kindOfWay : GoodIn wsX10_store wsX10_kindOfWay := goodIn_r _ [5] (by decide +kernel) (by decide +kernel)
set_option maxRecDepth 20000 in
theorem gX10_store_X10_kindOfWay : GoodIn wsX10_store (va_wsS RX10 188 yX10_kindOfWay wsX10_kindOfWay) := goodIn_app (goodIn_of _ (by decide +kernel)) ggX10_store_X10_kindOfWay
set_option maxRecDepth 20000 in
theorem ggX10_store_X10_cellAt : GoodIn wsX10_store wsX10_cellAt := goodIn_r _ [8] (by decide +kernel) (by decide +kernel)
set_option maxRecDepth 20000 in
theorem gX10_store_X10_cellAt : GoodIn wsX10_store (va_wsS RX10 93 yX10_cellAt wsX10_cellAt) := goodIn_app (goodIn_of _ (by decide +kernel)) ggX10_store_X10_cellAt
set_option maxRecDepth 20000 in
theorem ggX10_store_X10_kindOf : GoodIn wsX10_store wsX10_kindOf := goodIn_r _ [12, 1, 43, 44, 45, 46, 47, 48, 49, 50, 51, 52, 53, 54, 55, 56, 57, 58, 59, 60, 61, 62, 63, 64, 65, 66, 67, 68] (by decide +kernel) (by decide +kernel)
set_option maxRecDepth 20000 in
theorem gX10_store_X10_kindOf : GoodIn wsX10_store (wsV RX10 89 RX10 yX10_kindOf wsX10_kindOf) := goodIn_app (goodIn_of _ (by decide +kernel)) ggX10_store_X10_kindOf
set_option maxRecDepth 20000 in
theorem ggX10_store_X10_widened : GoodIn wsX10_store wsX10_widened := goodIn_r _ [15, 16, 17, 18, 19, 20, 21, 22, 23, 24, 25, 26, 27, 28, 29, 30, 31, 32, 33, 34, 35, 36, 37, 38, 39, 40, 41, 42] (by decide +kernel) (by decide +kernel)
set_option maxRecDepth 20000 in
theorem gX10_store_X10_widened : GoodIn wsX10_store (va_wsS RX10 198 yX10_widened wsX10_widened) := goodIn_app (goodIn_of _ (by decide +kernel)) ggX10_store_X10_widened
theorem dX10_store_0 : decode cX10_store 0 = .ok (.iload_n 3, 1) := by decide +kernel
theorem dX10_store_1 : decode cX10_store 1 = .ok (.invokestatic 188, 3) := by decide +kernel
theorem dX10_store_4 : decode cX10_store 4 = .ok (.istore 6, 2) := by decide +kernel
theorem dX10_store_6 : decode cX10_store 6 = .ok (.aload_n 0, 1) := by decide +kernel
theorem dX10_store_7 : decode cX10_store 7 = .ok (.getfield 11, 3) := by decide +kernel
theorem dX10_store_10 : decode cX10_store 10 = .ok (.iload_n 1, 1) := by decide +kernel
theorem dX10_store_11 : decode cX10_store 11 = .ok (.iload_n 2, 1) := by decide +kernel
theorem dX10_store_12 : decode cX10_store 12 = .ok (.invokestatic 93, 3) := by decide +kernel
theorem dX10_store_15 : decode cX10_store 15 = .ok (.iload 6, 2) := by decide +kernel
theorem dX10_store_17 : decode cX10_store 17 = .ok (.iconst (-1), 1) := by decide +kernel
theorem dX10_store_18 : decode cX10_store 18 = .ok (.if_icmp .eq 13, 3) := by decide +kernel
theorem dX10_store_21 : decode cX10_store 21 = .ok (.aload_n 0, 1) := by decide +kernel
theorem dX10_store_22 : decode cX10_store 22 = .ok (.iload_n 1, 1) := by decide +kernel
theorem dX10_store_23 : decode cX10_store 23 = .ok (.invokevirtual 89, 3) := by decide +kernel
theorem dX10_store_26 : decode cX10_store 26 = .ok (.bipush 8, 2) := by decide +kernel
theorem dX10_store_28 : decode cX10_store 28 = .ok (.if_icmp .lt 8, 3) := by decide +kernel
theorem dX10_store_31 : decode cX10_store 31 = .ok (.lload 4, 2) := by decide +kernel
theorem dX10_store_33 : decode cX10_store 33 = .ok (.goto 15, 3) := by decide +kernel
theorem dX10_store_36 : decode cX10_store 36 = .ok (.lload 4, 2) := by decide +kernel
theorem dX10_store_38 : decode cX10_store 38 = .ok (.iload 6, 2) := by decide +kernel
theorem dX10_store_40 : decode cX10_store 40 = .ok (.aload_n 0, 1) := by decide +kernel
theorem dX10_store_41 : decode cX10_store 41 = .ok (.iload_n 1, 1) := by decide +kernel
theorem dX10_store_42 : decode cX10_store 42 = .ok (.invokevirtual 89, 3) := by decide +kernel
theorem dX10_store_45 : decode cX10_store 45 = .ok (.invokestatic 198, 3) := by decide +kernel
theorem dX10_store_48 : decode cX10_store 48 = .ok (.lastore, 1) := by decide +kernel
theorem dX10_store_49 : decode cX10_store 49 = .ok (.return_, 1) := by decide +kernel
set_option maxRecDepth 20000 in
theorem ggX10_thingOf_X10_textOf : GoodIn wsX10_thingOf wsX10_textOf := goodIn_r _ [5, 6] (by decide +kernel) (by decide +kernel)
set_option maxRecDepth 20000 in
theorem gX10_thingOf_X10_textOf : GoodIn wsX10_thingOf (va_wsS RX10 202 yX10_textOf wsX10_textOf) := goodIn_app (goodIn_of _ (by decide +kernel)) ggX10_thingOf_X10_textOf
set_option maxRecDepth 20000 in
theorem ggX10_thingOf_X10_kindOfWay : GoodIn wsX10_thingOf wsX10_kindOfWay := goodIn_r _ [9] (by decide +kernel) (by decide +kernel)
set_option maxRecDepth 20000 in
theorem gX10_thingOf_X10_kindOfWay : GoodIn wsX10_thingOf (va_wsS RX10 188 yX10_kindOfWay wsX10_kindOfWay) := goodIn_app (goodIn_of _ (by decide +kernel)) ggX10_thingOf_X10_kindOfWay
set_option maxRecDepth 20000 in
theorem ggX10_thingOf_X10_toldBy : GoodIn wsX10_thingOf wsX10_toldBy := goodIn_r _ [12, 13, 14, 15, 16, 17, 18, 19, 20, 21, 22, 23, 24, 25, 26, 27, 28, 29, 30, 31, 32, 33, 34, 35, 36, 37, 38, 39] (by decide +kernel) (by decide +kernel)
set_option maxRecDepth 20000 in
theorem gX10_thingOf_X10_toldBy : GoodIn wsX10_thingOf (va_wsS RX10 206 yX10_toldBy wsX10_toldBy) := goodIn_app (goodIn_of _ (by decide +kernel)) ggX10_thingOf_X10_toldBy
theorem dX10_thingOf_0 : decode cX10_thingOf 0 = .ok (.iload_n 0, 1) := by decide +kernel
theorem dX10_thingOf_1 : decode cX10_thingOf 1 = .ok (.bipush 19, 2) := by decide +kernel
theorem dX10_thingOf_3 : decode cX10_thingOf 3 = .ok (.if_icmp .ne 10, 3) := by decide +kernel
theorem dX10_thingOf_6 : decode cX10_thingOf 6 = .ok (.iload_n 1, 1) := by decide +kernel
theorem dX10_thingOf_7 : decode cX10_thingOf 7 = .ok (.invokestatic 202, 3) := by decide +kernel
theorem dX10_thingOf_10 : decode cX10_thingOf 10 = .ok (.goto 34, 3) := by decide +kernel
theorem dX10_thingOf_13 : decode cX10_thingOf 13 = .ok (.iload_n 0, 1) := by decide +kernel
theorem dX10_thingOf_14 : decode cX10_thingOf 14 = .ok (.bipush 20, 2) := by decide +kernel
theorem dX10_thingOf_16 : decode cX10_thingOf 16 = .ok (.if_icmp .ne 8, 3) := by decide +kernel
theorem dX10_thingOf_19 : decode cX10_thingOf 19 = .ok (.iload_n 1, 1) := by decide +kernel
theorem dX10_thingOf_20 : decode cX10_thingOf 20 = .ok (.i2l, 1) := by decide +kernel
theorem dX10_thingOf_21 : decode cX10_thingOf 21 = .ok (.goto 23, 3) := by decide +kernel
theorem dX10_thingOf_24 : decode cX10_thingOf 24 = .ok (.iload_n 0, 1) := by decide +kernel
theorem dX10_thingOf_25 : decode cX10_thingOf 25 = .ok (.bipush 21, 2) := by decide +kernel
theorem dX10_thingOf_27 : decode cX10_thingOf 27 = .ok (.if_icmp .ne 9, 3) := by decide +kernel
theorem dX10_thingOf_30 : decode cX10_thingOf 30 = .ok (.ldc2_w 124, 3) := by decide +kernel
theorem dX10_thingOf_33 : decode cX10_thingOf 33 = .ok (.goto 11, 3) := by decide +kernel
theorem dX10_thingOf_36 : decode cX10_thingOf 36 = .ok (.iload_n 0, 1) := by decide +kernel
theorem dX10_thingOf_37 : decode cX10_thingOf 37 = .ok (.invokestatic 188, 3) := by decide +kernel
theorem dX10_thingOf_40 : decode cX10_thingOf 40 = .ok (.iload_n 1, 1) := by decide +kernel
theorem dX10_thingOf_41 : decode cX10_thingOf 41 = .ok (.invokestatic 206, 3) := by decide +kernel
theorem dX10_thingOf_44 : decode cX10_thingOf 44 = .ok (.lreturn, 1) := by decide +kernel
set_option maxRecDepth 20000 in
theorem ggX10_puts_X10_kindOf : GoodIn wsX10_puts wsX10_kindOf := goodIn_r _ [5, 6, 88, 89, 90, 91, 92, 93, 94, 95, 96, 97, 98, 99, 100, 101, 102, 103, 104, 105, 106, 107, 108, 109, 110, 111, 112, 113] (by decide +kernel) (by decide +kernel)
set_option maxRecDepth 20000 in
theorem gX10_puts_X10_kindOf : GoodIn wsX10_puts (wsV RX10 89 RX10 yX10_kindOf wsX10_kindOf) := goodIn_app (goodIn_of _ (by decide +kernel)) ggX10_puts_X10_kindOf
set_option maxRecDepth 20000 in
theorem ggX10_puts_X10_canHold : GoodIn wsX10_puts wsX10_canHold := goodIn_r _ [10, 11, 12, 4, 13, 14, 15, 16, 17] (by decide +kernel) (by decide +kernel)
set_option maxRecDepth 20000 in
theorem gX10_puts_X10_canHold : GoodIn wsX10_puts (wsV RX10 210 RX10 yX10_canHold wsX10_canHold) := goodIn_app (goodIn_of _ (by decide +kernel)) ggX10_puts_X10_canHold
set_option maxRecDepth 20000 in
theorem ggX10_puts_X10_whyNot : GoodIn wsX10_puts wsX10_whyNot := goodIn_r _ [21, 22, 23, 24, 4, 25, 1, 2, 3, 5, 6, 26, 27, 28, 29, 30, 31, 32, 33, 34, 35, 36, 88, 89, 90, 91, 92, 93, 94, 95, 96, 97, 98, 99, 100, 101, 102, 103, 104, 105, 106, 107, 108, 109, 110, 111, 112, 113] (by decide +kernel) (by decide +kernel)
set_option maxRecDepth 20000 in
theorem gX10_puts_X10_whyNot : GoodIn wsX10_puts (wsV RX10 213 RX10 yX10_whyNot wsX10_whyNot) := goodIn_app (goodIn_of _ (by decide +kernel)) ggX10_puts_X10_whyNot
set_option maxRecDepth 20000 in
theorem ggX10_puts_X10_thingOf : GoodIn wsX10_puts wsX10_thingOf := goodIn_r _ [39, 40, 41, 42, 4, 43, 44, 11, 12, 13, 45, 46, 47, 48, 49, 50, 51, 52, 53, 54, 55, 56, 57, 58, 59, 60, 61, 62, 63, 64, 65, 66, 67, 68, 69, 70, 71, 72, 73, 74] (by decide +kernel) (by decide +kernel)
set_option maxRecDepth 20000 in
theorem gX10_puts_X10_thingOf : GoodIn wsX10_puts (va_wsS RX10 217 yX10_thingOf wsX10_thingOf) := goodIn_app (goodIn_of _ (by decide +kernel)) ggX10_puts_X10_thingOf
set_option maxRecDepth 20000 in
theorem ggX10_puts_X10_store : GoodIn wsX10_puts wsX10_store := goodIn_r _ [78, 6, 11, 12, 4, 13, 79, 80, 81, 1, 2, 3, 5, 82, 83, 84, 85, 86, 87, 58, 51, 52, 53, 54, 55, 56, 57, 59, 60, 61, 62, 63, 64, 65, 66, 67, 68, 69, 70, 71, 72, 73, 74, 88, 89, 90, 91, 92, 93, 94, 95, 96, 97, 98, 99, 100, 101, 102, 103, 104, 105, 106, 107, 108, 109, 110, 111, 112, 113] (by decide +kernel) (by decide +kernel)
set_option maxRecDepth 20000 in
theorem gX10_puts_X10_store : GoodIn wsX10_puts (wsV RX10 220 RX10 yX10_store wsX10_store) := goodIn_app (goodIn_of _ (by decide +kernel)) ggX10_puts_X10_store
theorem dX10_puts_0 : decode cX10_puts 0 = .ok (.aload_n 0, 1) := by decide +kernel
theorem dX10_puts_1 : decode cX10_puts 1 = .ok (.iload_n 1, 1) := by decide +kernel
theorem dX10_puts_2 : decode cX10_puts 2 = .ok (.iload_n 2, 1) := by decide +kernel
theorem dX10_puts_3 : decode cX10_puts 3 = .ok (.iload_n 3, 1) := by decide +kernel
theorem dX10_puts_4 : decode cX10_puts 4 = .ok (.aload_n 0, 1) := by decide +kernel
theorem dX10_puts_5 : decode cX10_puts 5 = .ok (.aload_n 0, 1) := by decide +kernel
theorem dX10_puts_6 : decode cX10_puts 6 = .ok (.iload_n 1, 1) := by decide +kernel
theorem dX10_puts_7 : decode cX10_puts 7 = .ok (.invokevirtual 89, 3) := by decide +kernel
theorem dX10_puts_10 : decode cX10_puts 10 = .ok (.iload_n 3, 1) := by decide +kernel
theorem dX10_puts_11 : decode cX10_puts 11 = .ok (.invokevirtual 210, 3) := by decide +kernel
theorem dX10_puts_14 : decode cX10_puts 14 = .ok (.invokevirtual 213, 3) := by decide +kernel
theorem dX10_puts_17 : decode cX10_puts 17 = .ok (.istore 5, 2) := by decide +kernel
theorem dX10_puts_19 : decode cX10_puts 19 = .ok (.iload 5, 2) := by decide +kernel
theorem dX10_puts_21 : decode cX10_puts 21 = .ok (.ifCond .ne 16, 3) := by decide +kernel
theorem dX10_puts_24 : decode cX10_puts 24 = .ok (.aload_n 0, 1) := by decide +kernel
theorem dX10_puts_25 : decode cX10_puts 25 = .ok (.iload_n 1, 1) := by decide +kernel
theorem dX10_puts_26 : decode cX10_puts 26 = .ok (.iload_n 2, 1) := by decide +kernel
theorem dX10_puts_27 : decode cX10_puts 27 = .ok (.iload_n 3, 1) := by decide +kernel
theorem dX10_puts_28 : decode cX10_puts 28 = .ok (.iload_n 3, 1) := by decide +kernel
theorem dX10_puts_29 : decode cX10_puts 29 = .ok (.iload 4, 2) := by decide +kernel
theorem dX10_puts_31 : decode cX10_puts 31 = .ok (.invokestatic 217, 3) := by decide +kernel
theorem dX10_puts_34 : decode cX10_puts 34 = .ok (.invokevirtual 220, 3) := by decide +kernel
theorem dX10_puts_37 : decode cX10_puts 37 = .ok (.iload 5, 2) := by decide +kernel
theorem dX10_puts_39 : decode cX10_puts 39 = .ok (.ireturn, 1) := by decide +kernel
set_option maxRecDepth 20000 in
theorem ggX10_put_X10_isColumn : GoodIn wsX10_put wsX10_isColumn := goodIn_r _ [6, 7, 8, 9, 5, 10, 11, 12, 13, 14, 115, 116, 117, 118, 119, 120, 121, 122, 123, 124, 125, 126, 127, 128, 129, 130, 131, 132, 133, 134, 135, 136, 137, 138, 139, 140] (by decide +kernel) (by decide +kernel)
set_option maxRecDepth 20000 in
theorem gX10_put_X10_isColumn : GoodIn wsX10_put (wsV RX10 85 RX10 yX10_isColumn wsX10_isColumn) := goodIn_app (goodIn_of _ (by decide +kernel)) ggX10_put_X10_isColumn
set_option maxRecDepth 20000 in
theorem ggX10_put_X10_isWay : GoodIn wsX10_put wsX10_isWay := goodIn_r _ [17, 12, 13, 5, 14] (by decide +kernel) (by decide +kernel)
set_option maxRecDepth 20000 in
theorem gX10_put_X10_isWay : GoodIn wsX10_put (va_wsS RX10 151 yX10_isWay wsX10_isWay) := goodIn_app (goodIn_of _ (by decide +kernel)) ggX10_put_X10_isWay
set_option maxRecDepth 20000 in
theorem ggX10_put_X10_lay : GoodIn wsX10_put wsX10_lay := goodIn_r _ [21, 22, 11, 115, 116, 117, 118, 119, 120, 121, 122, 123, 124, 125, 126, 127, 128, 129, 130, 131, 132, 133, 134, 135, 136, 137, 138, 139, 140] (by decide +kernel) (by decide +kernel)
set_option maxRecDepth 20000 in
theorem gX10_put_X10_lay : GoodIn wsX10_put (wsV RX10 224 RX10 yX10_lay wsX10_lay) := goodIn_app (goodIn_of _ (by decide +kernel)) ggX10_put_X10_lay
set_option maxRecDepth 20000 in
theorem ggX10_put_X10_puts : GoodIn wsX10_put wsX10_puts := goodIn_r _ [26, 27, 28, 29, 5, 30, 11, 31, 32, 33, 34, 35, 36, 37, 38, 39, 40, 41, 42, 43, 44, 45, 46, 47, 48, 49, 50, 51, 52, 53, 54, 55, 56, 57, 12, 13, 14, 58, 59, 60, 61, 62, 63, 64, 65, 66, 67, 68, 69, 70, 71, 72, 73, 74, 75, 76, 77, 78, 79, 80, 81, 82, 83, 84, 85, 86, 87, 88, 89, 90, 91, 92, 93, 94, 95, 96, 97, 98, 99, 100, 101, 102, 103, 104, 105, 106, 107, 108, 115, 116, 117, 118, 119, 120, 121, 122, 123, 124, 125, 126, 127, 128, 129, 130, 131, 132, 133, 134, 135, 136, 137, 138, 139, 140] (by decide +kernel) (by decide +kernel)
set_option maxRecDepth 20000 in
theorem gX10_put_X10_puts : GoodIn wsX10_put (wsV RX10 154 RX10 yX10_puts wsX10_puts) := goodIn_app (goodIn_of _ (by decide +kernel)) ggX10_put_X10_puts
set_option maxRecDepth 20000 in
theorem ggX10_put_X10_note : GoodIn wsX10_put wsX10_note := goodIn_r _ [112, 113, 114, 22, 115, 116, 117, 118, 119, 120, 121, 122, 123, 124, 125, 126, 127, 128, 129, 130, 131, 132, 133, 134, 135, 136, 137, 138, 139, 140] (by decide +kernel) (by decide +kernel)
set_option maxRecDepth 20000 in
theorem gX10_put_X10_note : GoodIn wsX10_put (wsV RX10 227 RX10 yX10_note wsX10_note) := goodIn_app (goodIn_of _ (by decide +kernel)) ggX10_put_X10_note
theorem dX10_put_0 : decode cX10_put 0 = .ok (.aload_n 0, 1) := by decide +kernel
theorem dX10_put_1 : decode cX10_put 1 = .ok (.iconst 0, 1) := by decide +kernel
theorem dX10_put_2 : decode cX10_put 2 = .ok (.putfield 67, 3) := by decide +kernel
theorem dX10_put_5 : decode cX10_put 5 = .ok (.aload_n 0, 1) := by decide +kernel
theorem dX10_put_6 : decode cX10_put 6 = .ok (.iload_n 1, 1) := by decide +kernel
theorem dX10_put_7 : decode cX10_put 7 = .ok (.invokevirtual 85, 3) := by decide +kernel
theorem dX10_put_10 : decode cX10_put 10 = .ok (.ifCond .eq 10, 3) := by decide +kernel
theorem dX10_put_13 : decode cX10_put 13 = .ok (.iload_n 3, 1) := by decide +kernel
theorem dX10_put_14 : decode cX10_put 14 = .ok (.invokestatic 151, 3) := by decide +kernel
theorem dX10_put_17 : decode cX10_put 17 = .ok (.ifCond .ne 5, 3) := by decide +kernel
theorem dX10_put_20 : decode cX10_put 20 = .ok (.iconst (-1), 1) := by decide +kernel
theorem dX10_put_21 : decode cX10_put 21 = .ok (.ireturn, 1) := by decide +kernel
theorem dX10_put_22 : decode cX10_put 22 = .ok (.aload_n 0, 1) := by decide +kernel
theorem dX10_put_23 : decode cX10_put 23 = .ok (.invokevirtual 224, 3) := by decide +kernel
theorem dX10_put_26 : decode cX10_put 26 = .ok (.aload_n 0, 1) := by decide +kernel
theorem dX10_put_27 : decode cX10_put 27 = .ok (.iload_n 1, 1) := by decide +kernel
theorem dX10_put_28 : decode cX10_put 28 = .ok (.iload_n 2, 1) := by decide +kernel
theorem dX10_put_29 : decode cX10_put 29 = .ok (.iload_n 3, 1) := by decide +kernel
theorem dX10_put_30 : decode cX10_put 30 = .ok (.iload 4, 2) := by decide +kernel
theorem dX10_put_32 : decode cX10_put 32 = .ok (.invokevirtual 154, 3) := by decide +kernel
theorem dX10_put_35 : decode cX10_put 35 = .ok (.istore 5, 2) := by decide +kernel
theorem dX10_put_37 : decode cX10_put 37 = .ok (.iload 5, 2) := by decide +kernel
theorem dX10_put_39 : decode cX10_put 39 = .ok (.ifCond .le 7, 3) := by decide +kernel
theorem dX10_put_42 : decode cX10_put 42 = .ok (.iload 5, 2) := by decide +kernel
theorem dX10_put_44 : decode cX10_put 44 = .ok (.ineg, 1) := by decide +kernel
theorem dX10_put_45 : decode cX10_put 45 = .ok (.ireturn, 1) := by decide +kernel
theorem dX10_put_46 : decode cX10_put 46 = .ok (.aload_n 0, 1) := by decide +kernel
theorem dX10_put_47 : decode cX10_put 47 = .ok (.invokevirtual 227, 3) := by decide +kernel
theorem dX10_put_50 : decode cX10_put 50 = .ok (.iconst 0, 1) := by decide +kernel
theorem dX10_put_51 : decode cX10_put 51 = .ok (.ireturn, 1) := by decide +kernel
set_option maxRecDepth 20000 in
theorem ggX10_whyTaken_X10_kindOf : GoodIn wsX10_whyTaken wsX10_kindOf := goodIn_r _ [5, 6, 30, 31, 32, 33, 34, 35, 36, 37, 38, 39, 40, 41, 42, 43, 44, 45, 46, 47, 48, 49, 50, 51, 52, 53, 54, 55] (by decide +kernel) (by decide +kernel)
set_option maxRecDepth 20000 in
theorem gX10_whyTaken_X10_kindOf : GoodIn wsX10_whyTaken (wsV RX10 89 RX10 yX10_kindOf wsX10_kindOf) := goodIn_app (goodIn_of _ (by decide +kernel)) ggX10_whyTaken_X10_kindOf
set_option maxRecDepth 20000 in
theorem ggX10_whyTaken_X10_widens : GoodIn wsX10_whyTaken wsX10_widens := goodIn_r _ [9, 10] (by decide +kernel) (by decide +kernel)
set_option maxRecDepth 20000 in
theorem gX10_whyTaken_X10_widens : GoodIn wsX10_whyTaken (va_wsS RX10 191 yX10_widens wsX10_widens) := goodIn_app (goodIn_of _ (by decide +kernel)) ggX10_whyTaken_X10_widens
set_option maxRecDepth 20000 in
theorem ggX10_whyTaken_X10_whyNot : GoodIn wsX10_whyTaken wsX10_whyNot := goodIn_r _ [14, 15, 16, 17, 4, 18, 1, 2, 3, 5, 6, 19, 20, 21, 22, 23, 24, 25, 26, 27, 28, 29, 30, 31, 32, 33, 34, 35, 36, 37, 38, 39, 40, 41, 42, 43, 44, 45, 46, 47, 48, 49, 50, 51, 52, 53, 54, 55] (by decide +kernel) (by decide +kernel)
set_option maxRecDepth 20000 in
theorem gX10_whyTaken_X10_whyNot : GoodIn wsX10_whyTaken (wsV RX10 213 RX10 yX10_whyNot wsX10_whyNot) := goodIn_app (goodIn_of _ (by decide +kernel)) ggX10_whyTaken_X10_whyNot
theorem dX10_whyTaken_0 : decode cX10_whyTaken 0 = .ok (.aload_n 0, 1) := by decide +kernel
theorem dX10_whyTaken_1 : decode cX10_whyTaken 1 = .ok (.iload_n 1, 1) := by decide +kernel
theorem dX10_whyTaken_2 : decode cX10_whyTaken 2 = .ok (.iload_n 2, 1) := by decide +kernel
theorem dX10_whyTaken_3 : decode cX10_whyTaken 3 = .ok (.iload_n 3, 1) := by decide +kernel
theorem dX10_whyTaken_4 : decode cX10_whyTaken 4 = .ok (.iload_n 3, 1) := by decide +kernel
theorem dX10_whyTaken_5 : decode cX10_whyTaken 5 = .ok (.bipush 10, 2) := by decide +kernel
theorem dX10_whyTaken_7 : decode cX10_whyTaken 7 = .ok (.if_icmp .eq 25, 3) := by decide +kernel
theorem dX10_whyTaken_10 : decode cX10_whyTaken 10 = .ok (.aload_n 0, 1) := by decide +kernel
theorem dX10_whyTaken_11 : decode cX10_whyTaken 11 = .ok (.iload_n 1, 1) := by decide +kernel
theorem dX10_whyTaken_12 : decode cX10_whyTaken 12 = .ok (.invokevirtual 89, 3) := by decide +kernel
theorem dX10_whyTaken_15 : decode cX10_whyTaken 15 = .ok (.bipush 8, 2) := by decide +kernel
theorem dX10_whyTaken_17 : decode cX10_whyTaken 17 = .ok (.if_icmp .ge 19, 3) := by decide +kernel
theorem dX10_whyTaken_20 : decode cX10_whyTaken 20 = .ok (.aload_n 0, 1) := by decide +kernel
theorem dX10_whyTaken_21 : decode cX10_whyTaken 21 = .ok (.iload_n 1, 1) := by decide +kernel
theorem dX10_whyTaken_22 : decode cX10_whyTaken 22 = .ok (.invokevirtual 89, 3) := by decide +kernel
theorem dX10_whyTaken_25 : decode cX10_whyTaken 25 = .ok (.iload_n 3, 1) := by decide +kernel
theorem dX10_whyTaken_26 : decode cX10_whyTaken 26 = .ok (.invokestatic 191, 3) := by decide +kernel
theorem dX10_whyTaken_29 : decode cX10_whyTaken 29 = .ok (.ifCond .eq 7, 3) := by decide +kernel
theorem dX10_whyTaken_32 : decode cX10_whyTaken 32 = .ok (.iconst 1, 1) := by decide +kernel
theorem dX10_whyTaken_33 : decode cX10_whyTaken 33 = .ok (.goto 4, 3) := by decide +kernel
theorem dX10_whyTaken_36 : decode cX10_whyTaken 36 = .ok (.iconst 0, 1) := by decide +kernel
theorem dX10_whyTaken_37 : decode cX10_whyTaken 37 = .ok (.invokevirtual 213, 3) := by decide +kernel
theorem dX10_whyTaken_40 : decode cX10_whyTaken 40 = .ok (.ireturn, 1) := by decide +kernel
set_option maxRecDepth 20000 in
theorem ggX10_take_X10_isColumn : GoodIn wsX10_take wsX10_isColumn := goodIn_r _ [7, 8, 9, 10, 6, 11, 12, 13, 14, 15, 86, 87, 88, 89, 90, 91, 92, 93, 94, 95, 96, 97, 98, 99, 100, 101, 102, 103, 104, 105, 106, 107, 108, 109, 110, 111] (by decide +kernel) (by decide +kernel)
set_option maxRecDepth 20000 in
theorem gX10_take_X10_isColumn : GoodIn wsX10_take (wsV RX10 85 RX10 yX10_isColumn wsX10_isColumn) := goodIn_app (goodIn_of _ (by decide +kernel)) ggX10_take_X10_isColumn
set_option maxRecDepth 20000 in
theorem ggX10_take_X10_in : GoodIn wsX10_take wsX10_in := goodIn_r _ [15] (by decide +kernel) (by decide +kernel)
set_option maxRecDepth 20000 in
theorem gX10_take_X10_in : GoodIn wsX10_take (va_wsS RX10 78 yX10_in wsX10_in) := goodIn_app (goodIn_of _ (by decide +kernel)) ggX10_take_X10_in
set_option maxRecDepth 20000 in
theorem ggX10_take_X10_whyTaken : GoodIn wsX10_take wsX10_whyTaken := goodIn_r _ [19, 20, 21, 22, 6, 23, 12, 24, 25, 26, 27, 28, 29, 30, 31, 32, 33, 34, 35, 36, 37, 38, 39, 40, 41, 42, 43, 13, 14, 15, 86, 87, 88, 89, 90, 91, 92, 93, 94, 95, 96, 97, 98, 99, 100, 101, 102, 103, 104, 105, 106, 107, 108, 109, 110, 111] (by decide +kernel) (by decide +kernel)
set_option maxRecDepth 20000 in
theorem gX10_take_X10_whyTaken : GoodIn wsX10_take (wsV RX10 230 RX10 yX10_whyTaken wsX10_whyTaken) := goodIn_app (goodIn_of _ (by decide +kernel)) ggX10_take_X10_whyTaken
set_option maxRecDepth 20000 in
theorem ggX10_take_X10_cell : GoodIn wsX10_take wsX10_cell := goodIn_r _ [47, 12, 48, 49, 6, 50, 86, 87, 88, 89, 90, 91, 92, 93, 94, 95, 96, 97, 98, 99, 100, 101, 102, 103, 104, 105, 106, 107, 108, 109, 110, 111] (by decide +kernel) (by decide +kernel)
set_option maxRecDepth 20000 in
theorem gX10_take_X10_cell : GoodIn wsX10_take (wsV RX10 234 RX10 yX10_cell wsX10_cell) := goodIn_app (goodIn_of _ (by decide +kernel)) ggX10_take_X10_cell
set_option maxRecDepth 20000 in
theorem ggX10_take_X10_kindOf : GoodIn wsX10_take wsX10_kindOf := goodIn_r _ [23, 12, 86, 87, 88, 89, 90, 91, 92, 93, 94, 95, 96, 97, 98, 99, 100, 101, 102, 103, 104, 105, 106, 107, 108, 109, 110, 111] (by decide +kernel) (by decide +kernel)
set_option maxRecDepth 20000 in
theorem gX10_take_X10_kindOf : GoodIn wsX10_take (wsV RX10 89 RX10 yX10_kindOf wsX10_kindOf) := goodIn_app (goodIn_of _ (by decide +kernel)) ggX10_take_X10_kindOf
set_option maxRecDepth 20000 in
theorem ggX10_take_X10_widened : GoodIn wsX10_take wsX10_widened := goodIn_r _ [53, 54, 55, 56, 57, 58, 59, 60, 61, 62, 63, 64, 65, 66, 67, 68, 69, 70, 71, 72, 73, 74, 75, 76, 77, 78, 79, 80] (by decide +kernel) (by decide +kernel)
set_option maxRecDepth 20000 in
theorem gX10_take_X10_widened : GoodIn wsX10_take (va_wsS RX10 198 yX10_widened wsX10_widened) := goodIn_app (goodIn_of _ (by decide +kernel)) ggX10_take_X10_widened
set_option maxRecDepth 20000 in
theorem ggX10_take_X10_tell : GoodIn wsX10_take wsX10_tell := goodIn_r _ [84, 85, 2, 86, 87, 88, 89, 90, 91, 92, 93, 94, 95, 96, 97, 98, 99, 100, 101, 102, 103, 104, 105, 106, 107, 108, 109, 110, 111] (by decide +kernel) (by decide +kernel)
set_option maxRecDepth 20000 in
theorem gX10_take_X10_tell : GoodIn wsX10_take (wsV RX10 237 RX10 yX10_tell wsX10_tell) := goodIn_app (goodIn_of _ (by decide +kernel)) ggX10_take_X10_tell
theorem dX10_take_0 : decode cX10_take 0 = .ok (.aload_n 0, 1) := by decide +kernel
theorem dX10_take_1 : decode cX10_take 1 = .ok (.iconst 0, 1) := by decide +kernel
theorem dX10_take_2 : decode cX10_take 2 = .ok (.putfield 67, 3) := by decide +kernel
theorem dX10_take_5 : decode cX10_take 5 = .ok (.aload_n 0, 1) := by decide +kernel
theorem dX10_take_6 : decode cX10_take 6 = .ok (.iload_n 1, 1) := by decide +kernel
theorem dX10_take_7 : decode cX10_take 7 = .ok (.invokevirtual 85, 3) := by decide +kernel
theorem dX10_take_10 : decode cX10_take 10 = .ok (.ifCond .eq 19, 3) := by decide +kernel
theorem dX10_take_13 : decode cX10_take 13 = .ok (.iload_n 3, 1) := by decide +kernel
theorem dX10_take_14 : decode cX10_take 14 = .ok (.iconst 0, 1) := by decide +kernel
theorem dX10_take_15 : decode cX10_take 15 = .ok (.bipush 7, 2) := by decide +kernel
theorem dX10_take_17 : decode cX10_take 17 = .ok (.invokestatic 78, 3) := by decide +kernel
theorem dX10_take_20 : decode cX10_take 20 = .ok (.ifCond .ne 11, 3) := by decide +kernel
theorem dX10_take_23 : decode cX10_take 23 = .ok (.iload_n 3, 1) := by decide +kernel
theorem dX10_take_24 : decode cX10_take 24 = .ok (.bipush 10, 2) := by decide +kernel
theorem dX10_take_26 : decode cX10_take 26 = .ok (.if_icmp .eq 5, 3) := by decide +kernel
theorem dX10_take_29 : decode cX10_take 29 = .ok (.iconst (-1), 1) := by decide +kernel
theorem dX10_take_30 : decode cX10_take 30 = .ok (.ireturn, 1) := by decide +kernel
theorem dX10_take_31 : decode cX10_take 31 = .ok (.aload_n 0, 1) := by decide +kernel
theorem dX10_take_32 : decode cX10_take 32 = .ok (.iload_n 1, 1) := by decide +kernel
theorem dX10_take_33 : decode cX10_take 33 = .ok (.iload_n 2, 1) := by decide +kernel
theorem dX10_take_34 : decode cX10_take 34 = .ok (.iload_n 3, 1) := by decide +kernel
theorem dX10_take_35 : decode cX10_take 35 = .ok (.invokevirtual 230, 3) := by decide +kernel
theorem dX10_take_38 : decode cX10_take 38 = .ok (.istore 4, 2) := by decide +kernel
theorem dX10_take_40 : decode cX10_take 40 = .ok (.iload 4, 2) := by decide +kernel
theorem dX10_take_42 : decode cX10_take 42 = .ok (.ifCond .le 7, 3) := by decide +kernel
theorem dX10_take_45 : decode cX10_take 45 = .ok (.iload 4, 2) := by decide +kernel
theorem dX10_take_47 : decode cX10_take 47 = .ok (.ineg, 1) := by decide +kernel
theorem dX10_take_48 : decode cX10_take 48 = .ok (.ireturn, 1) := by decide +kernel
theorem dX10_take_49 : decode cX10_take 49 = .ok (.aload_n 0, 1) := by decide +kernel
theorem dX10_take_50 : decode cX10_take 50 = .ok (.iconst 0, 1) := by decide +kernel
theorem dX10_take_51 : decode cX10_take 51 = .ok (.putfield 71, 3) := by decide +kernel
theorem dX10_take_54 : decode cX10_take 54 = .ok (.aload_n 0, 1) := by decide +kernel
theorem dX10_take_55 : decode cX10_take 55 = .ok (.iload_n 3, 1) := by decide +kernel
theorem dX10_take_56 : decode cX10_take 56 = .ok (.bipush 10, 2) := by decide +kernel
theorem dX10_take_58 : decode cX10_take 58 = .ok (.if_icmp .ne 12, 3) := by decide +kernel
theorem dX10_take_61 : decode cX10_take 61 = .ok (.aload_n 0, 1) := by decide +kernel
theorem dX10_take_62 : decode cX10_take 62 = .ok (.iload_n 1, 1) := by decide +kernel
theorem dX10_take_63 : decode cX10_take 63 = .ok (.iload_n 2, 1) := by decide +kernel
theorem dX10_take_64 : decode cX10_take 64 = .ok (.invokevirtual 234, 3) := by decide +kernel
theorem dX10_take_67 : decode cX10_take 67 = .ok (.goto 18, 3) := by decide +kernel
theorem dX10_take_70 : decode cX10_take 70 = .ok (.aload_n 0, 1) := by decide +kernel
theorem dX10_take_71 : decode cX10_take 71 = .ok (.iload_n 1, 1) := by decide +kernel
theorem dX10_take_72 : decode cX10_take 72 = .ok (.iload_n 2, 1) := by decide +kernel
theorem dX10_take_73 : decode cX10_take 73 = .ok (.invokevirtual 234, 3) := by decide +kernel
theorem dX10_take_76 : decode cX10_take 76 = .ok (.aload_n 0, 1) := by decide +kernel
theorem dX10_take_77 : decode cX10_take 77 = .ok (.iload_n 1, 1) := by decide +kernel
theorem dX10_take_78 : decode cX10_take 78 = .ok (.invokevirtual 89, 3) := by decide +kernel
theorem dX10_take_81 : decode cX10_take 81 = .ok (.iload_n 3, 1) := by decide +kernel
theorem dX10_take_82 : decode cX10_take 82 = .ok (.invokestatic 198, 3) := by decide +kernel
theorem dX10_take_85 : decode cX10_take 85 = .ok (.invokevirtual 237, 3) := by decide +kernel
theorem dX10_take_88 : decode cX10_take 88 = .ok (.iconst 0, 1) := by decide +kernel
theorem dX10_take_89 : decode cX10_take 89 = .ok (.ireturn, 1) := by decide +kernel
set_option maxRecDepth 20000 in
theorem ggX10_length_X10_isColumn : GoodIn wsX10_length wsX10_isColumn := goodIn_r _ [6, 7, 8, 9, 5, 10, 11, 12, 13, 14, 27, 28, 29, 30, 31, 32, 33, 34, 35, 36, 37, 38, 39, 40, 41, 42, 43, 44, 45, 46, 47, 48, 49, 50, 51, 52] (by decide +kernel) (by decide +kernel)
set_option maxRecDepth 20000 in
theorem gX10_length_X10_isColumn : GoodIn wsX10_length (wsV RX10 85 RX10 yX10_isColumn wsX10_isColumn) := goodIn_app (goodIn_of _ (by decide +kernel)) ggX10_length_X10_isColumn
set_option maxRecDepth 20000 in
theorem ggX10_length_X10_whyNoRow : GoodIn wsX10_length wsX10_whyNoRow := goodIn_r _ [18, 19, 20, 21, 5, 22, 11, 27, 28, 29, 30, 31, 32, 33, 34, 35, 36, 37, 38, 39, 40, 41, 42, 43, 44, 45, 46, 47, 48, 49, 50, 51, 52] (by decide +kernel) (by decide +kernel)
set_option maxRecDepth 20000 in
theorem gX10_length_X10_whyNoRow : GoodIn wsX10_length (wsV RX10 182 RX10 yX10_whyNoRow wsX10_whyNoRow) := goodIn_app (goodIn_of _ (by decide +kernel)) ggX10_length_X10_whyNoRow
set_option maxRecDepth 20000 in
theorem ggX10_length_X10_rows : GoodIn wsX10_length wsX10_rows := goodIn_r _ [26, 11, 27, 28, 29, 30, 31, 32, 33, 34, 35, 36, 37, 38, 39, 40, 41, 42, 43, 44, 45, 46, 47, 48, 49, 50, 51, 52] (by decide +kernel) (by decide +kernel)
set_option maxRecDepth 20000 in
theorem gX10_length_X10_rows : GoodIn wsX10_length (wsV RX10 82 RX10 yX10_rows wsX10_rows) := goodIn_app (goodIn_of _ (by decide +kernel)) ggX10_length_X10_rows
theorem dX10_length_0 : decode cX10_length 0 = .ok (.aload_n 0, 1) := by decide +kernel
theorem dX10_length_1 : decode cX10_length 1 = .ok (.iconst 0, 1) := by decide +kernel
theorem dX10_length_2 : decode cX10_length 2 = .ok (.putfield 67, 3) := by decide +kernel
theorem dX10_length_5 : decode cX10_length 5 = .ok (.aload_n 0, 1) := by decide +kernel
theorem dX10_length_6 : decode cX10_length 6 = .ok (.iload_n 1, 1) := by decide +kernel
theorem dX10_length_7 : decode cX10_length 7 = .ok (.invokevirtual 85, 3) := by decide +kernel
theorem dX10_length_10 : decode cX10_length 10 = .ok (.ifCond .ne 5, 3) := by decide +kernel
theorem dX10_length_13 : decode cX10_length 13 = .ok (.iconst (-1), 1) := by decide +kernel
theorem dX10_length_14 : decode cX10_length 14 = .ok (.ireturn, 1) := by decide +kernel
theorem dX10_length_15 : decode cX10_length 15 = .ok (.aload_n 0, 1) := by decide +kernel
theorem dX10_length_16 : decode cX10_length 16 = .ok (.iload_n 1, 1) := by decide +kernel
theorem dX10_length_17 : decode cX10_length 17 = .ok (.invokevirtual 182, 3) := by decide +kernel
theorem dX10_length_20 : decode cX10_length 20 = .ok (.ifCond .le 12, 3) := by decide +kernel
theorem dX10_length_23 : decode cX10_length 23 = .ok (.aload_n 0, 1) := by decide +kernel
theorem dX10_length_24 : decode cX10_length 24 = .ok (.iload_n 1, 1) := by decide +kernel
theorem dX10_length_25 : decode cX10_length 25 = .ok (.invokevirtual 182, 3) := by decide +kernel
theorem dX10_length_28 : decode cX10_length 28 = .ok (.ineg, 1) := by decide +kernel
theorem dX10_length_29 : decode cX10_length 29 = .ok (.goto 7, 3) := by decide +kernel
theorem dX10_length_32 : decode cX10_length 32 = .ok (.aload_n 0, 1) := by decide +kernel
theorem dX10_length_33 : decode cX10_length 33 = .ok (.invokevirtual 82, 3) := by decide +kernel
theorem dX10_length_36 : decode cX10_length 36 = .ok (.ireturn, 1) := by decide +kernel
set_option maxRecDepth 20000 in
theorem ggX10_kind_X10_isColumn : GoodIn wsX10_kind wsX10_isColumn := goodIn_r _ [6, 7, 8, 9, 5, 10, 11, 12, 13, 14, 19, 20, 21, 22, 23, 24, 25, 26, 27, 28, 29, 30, 31, 32, 33, 34, 35, 36, 37, 38, 39, 40, 41, 42, 43, 44] (by decide +kernel) (by decide +kernel)
set_option maxRecDepth 20000 in
theorem gX10_kind_X10_isColumn : GoodIn wsX10_kind (wsV RX10 85 RX10 yX10_isColumn wsX10_isColumn) := goodIn_app (goodIn_of _ (by decide +kernel)) ggX10_kind_X10_isColumn
set_option maxRecDepth 20000 in
theorem ggX10_kind_X10_kindOf : GoodIn wsX10_kind wsX10_kindOf := goodIn_r _ [18, 11, 19, 20, 21, 22, 23, 24, 25, 26, 27, 28, 29, 30, 31, 32, 33, 34, 35, 36, 37, 38, 39, 40, 41, 42, 43, 44] (by decide +kernel) (by decide +kernel)
set_option maxRecDepth 20000 in
theorem gX10_kind_X10_kindOf : GoodIn wsX10_kind (wsV RX10 89 RX10 yX10_kindOf wsX10_kindOf) := goodIn_app (goodIn_of _ (by decide +kernel)) ggX10_kind_X10_kindOf
theorem dX10_kind_0 : decode cX10_kind 0 = .ok (.aload_n 0, 1) := by decide +kernel
theorem dX10_kind_1 : decode cX10_kind 1 = .ok (.iconst 0, 1) := by decide +kernel
theorem dX10_kind_2 : decode cX10_kind 2 = .ok (.putfield 67, 3) := by decide +kernel
theorem dX10_kind_5 : decode cX10_kind 5 = .ok (.aload_n 0, 1) := by decide +kernel
theorem dX10_kind_6 : decode cX10_kind 6 = .ok (.iload_n 1, 1) := by decide +kernel
theorem dX10_kind_7 : decode cX10_kind 7 = .ok (.invokevirtual 85, 3) := by decide +kernel
theorem dX10_kind_10 : decode cX10_kind 10 = .ok (.ifCond .eq 11, 3) := by decide +kernel
theorem dX10_kind_13 : decode cX10_kind 13 = .ok (.aload_n 0, 1) := by decide +kernel
theorem dX10_kind_14 : decode cX10_kind 14 = .ok (.iload_n 1, 1) := by decide +kernel
theorem dX10_kind_15 : decode cX10_kind 15 = .ok (.invokevirtual 89, 3) := by decide +kernel
theorem dX10_kind_18 : decode cX10_kind 18 = .ok (.goto 4, 3) := by decide +kernel
theorem dX10_kind_21 : decode cX10_kind 21 = .ok (.iconst (-1), 1) := by decide +kernel
theorem dX10_kind_22 : decode cX10_kind 22 = .ok (.ireturn, 1) := by decide +kernel
set_option maxRecDepth 20000 in
theorem ggX10_wayOf_X10_kindOf : GoodIn wsX10_wayOf wsX10_kindOf := goodIn_r _ [6, 7, 15, 16, 17, 18, 19, 20, 21, 22, 23, 24, 25, 26, 27, 28, 29, 30, 31, 32, 33, 34, 35, 36, 37, 38, 39, 40] (by decide +kernel) (by decide +kernel)
set_option maxRecDepth 20000 in
theorem gX10_wayOf_X10_kindOf : GoodIn wsX10_wayOf (wsV RX10 89 RX10 yX10_kindOf wsX10_kindOf) := goodIn_app (goodIn_of _ (by decide +kernel)) ggX10_wayOf_X10_kindOf
set_option maxRecDepth 20000 in
theorem ggX10_wayOf_X10_cell : GoodIn wsX10_wayOf wsX10_cell := goodIn_r _ [11, 7, 12, 13, 5, 14, 15, 16, 17, 18, 19, 20, 21, 22, 23, 24, 25, 26, 27, 28, 29, 30, 31, 32, 33, 34, 35, 36, 37, 38, 39, 40] (by decide +kernel) (by decide +kernel)
set_option maxRecDepth 20000 in
theorem gX10_wayOf_X10_cell : GoodIn wsX10_wayOf (wsV RX10 234 RX10 yX10_cell wsX10_cell) := goodIn_app (goodIn_of _ (by decide +kernel)) ggX10_wayOf_X10_cell
theorem dX10_wayOf_0 : decode cX10_wayOf 0 = .ok (.aload_n 0, 1) := by decide +kernel
theorem dX10_wayOf_1 : decode cX10_wayOf 1 = .ok (.iload_n 1, 1) := by decide +kernel
theorem dX10_wayOf_2 : decode cX10_wayOf 2 = .ok (.invokevirtual 89, 3) := by decide +kernel
theorem dX10_wayOf_5 : decode cX10_wayOf 5 = .ok (.istore_n 3, 1) := by decide +kernel
theorem dX10_wayOf_6 : decode cX10_wayOf 6 = .ok (.iload_n 3, 1) := by decide +kernel
theorem dX10_wayOf_7 : decode cX10_wayOf 7 = .ok (.bipush 8, 2) := by decide +kernel
theorem dX10_wayOf_9 : decode cX10_wayOf 9 = .ok (.if_icmp .ge 8, 3) := by decide +kernel
theorem dX10_wayOf_12 : decode cX10_wayOf 12 = .ok (.bipush 10, 2) := by decide +kernel
theorem dX10_wayOf_14 : decode cX10_wayOf 14 = .ok (.iload_n 3, 1) := by decide +kernel
theorem dX10_wayOf_15 : decode cX10_wayOf 15 = .ok (.iadd, 1) := by decide +kernel
theorem dX10_wayOf_16 : decode cX10_wayOf 16 = .ok (.ireturn, 1) := by decide +kernel
theorem dX10_wayOf_17 : decode cX10_wayOf 17 = .ok (.aload_n 0, 1) := by decide +kernel
theorem dX10_wayOf_18 : decode cX10_wayOf 18 = .ok (.iload_n 1, 1) := by decide +kernel
theorem dX10_wayOf_19 : decode cX10_wayOf 19 = .ok (.iload_n 2, 1) := by decide +kernel
theorem dX10_wayOf_20 : decode cX10_wayOf 20 = .ok (.invokevirtual 234, 3) := by decide +kernel
theorem dX10_wayOf_23 : decode cX10_wayOf 23 = .ok (.ldc2_w 124, 3) := by decide +kernel
theorem dX10_wayOf_26 : decode cX10_wayOf 26 = .ok (.lcmp, 1) := by decide +kernel
theorem dX10_wayOf_27 : decode cX10_wayOf 27 = .ok (.ifCond .ne 6, 3) := by decide +kernel
theorem dX10_wayOf_30 : decode cX10_wayOf 30 = .ok (.bipush 21, 2) := by decide +kernel
theorem dX10_wayOf_32 : decode cX10_wayOf 32 = .ok (.ireturn, 1) := by decide +kernel
theorem dX10_wayOf_33 : decode cX10_wayOf 33 = .ok (.iload_n 3, 1) := by decide +kernel
theorem dX10_wayOf_34 : decode cX10_wayOf 34 = .ok (.bipush 8, 2) := by decide +kernel
theorem dX10_wayOf_36 : decode cX10_wayOf 36 = .ok (.if_icmp .ne 8, 3) := by decide +kernel
theorem dX10_wayOf_39 : decode cX10_wayOf 39 = .ok (.bipush 14, 2) := by decide +kernel
theorem dX10_wayOf_41 : decode cX10_wayOf 41 = .ok (.goto 16, 3) := by decide +kernel
theorem dX10_wayOf_44 : decode cX10_wayOf 44 = .ok (.iload_n 3, 1) := by decide +kernel
theorem dX10_wayOf_45 : decode cX10_wayOf 45 = .ok (.bipush 9, 2) := by decide +kernel
theorem dX10_wayOf_47 : decode cX10_wayOf 47 = .ok (.if_icmp .ne 8, 3) := by decide +kernel
theorem dX10_wayOf_50 : decode cX10_wayOf 50 = .ok (.bipush 19, 2) := by decide +kernel
theorem dX10_wayOf_52 : decode cX10_wayOf 52 = .ok (.goto 5, 3) := by decide +kernel
theorem dX10_wayOf_55 : decode cX10_wayOf 55 = .ok (.bipush 20, 2) := by decide +kernel
theorem dX10_wayOf_57 : decode cX10_wayOf 57 = .ok (.ireturn, 1) := by decide +kernel
set_option maxRecDepth 20000 in
theorem ggX10_refusesBoth_X10_isColumn : GoodIn wsX10_refusesBoth wsX10_isColumn := goodIn_r _ [5, 6, 7, 8, 4, 9, 10, 11, 12, 13, 22, 23, 24, 25, 26, 27, 28, 29, 30, 31, 32, 33, 34, 35, 36, 37, 38, 39, 40, 41, 42, 43, 44, 45, 46, 47] (by decide +kernel) (by decide +kernel)
set_option maxRecDepth 20000 in
theorem gX10_refusesBoth_X10_isColumn : GoodIn wsX10_refusesBoth (wsV RX10 85 RX10 yX10_isColumn wsX10_isColumn) := goodIn_app (goodIn_of _ (by decide +kernel)) ggX10_refusesBoth_X10_isColumn
set_option maxRecDepth 20000 in
theorem ggX10_refusesBoth_X10_whyNoRow : GoodIn wsX10_refusesBoth wsX10_whyNoRow := goodIn_r _ [17, 18, 19, 20, 4, 21, 10, 22, 23, 24, 25, 26, 27, 28, 29, 30, 31, 32, 33, 34, 35, 36, 37, 38, 39, 40, 41, 42, 43, 44, 45, 46, 47] (by decide +kernel) (by decide +kernel)
set_option maxRecDepth 20000 in
theorem gX10_refusesBoth_X10_whyNoRow : GoodIn wsX10_refusesBoth (wsV RX10 182 RX10 yX10_whyNoRow wsX10_whyNoRow) := goodIn_app (goodIn_of _ (by decide +kernel)) ggX10_refusesBoth_X10_whyNoRow
theorem dX10_refusesBoth_0 : decode cX10_refusesBoth 0 = .ok (.aload_n 0, 1) := by decide +kernel
theorem dX10_refusesBoth_1 : decode cX10_refusesBoth 1 = .ok (.iload_n 1, 1) := by decide +kernel
theorem dX10_refusesBoth_2 : decode cX10_refusesBoth 2 = .ok (.invokevirtual 85, 3) := by decide +kernel
theorem dX10_refusesBoth_5 : decode cX10_refusesBoth 5 = .ok (.ifCond .eq 11, 3) := by decide +kernel
theorem dX10_refusesBoth_8 : decode cX10_refusesBoth 8 = .ok (.aload_n 0, 1) := by decide +kernel
theorem dX10_refusesBoth_9 : decode cX10_refusesBoth 9 = .ok (.iload_n 2, 1) := by decide +kernel
theorem dX10_refusesBoth_10 : decode cX10_refusesBoth 10 = .ok (.invokevirtual 85, 3) := by decide +kernel
theorem dX10_refusesBoth_13 : decode cX10_refusesBoth 13 = .ok (.ifCond .ne 5, 3) := by decide +kernel
theorem dX10_refusesBoth_16 : decode cX10_refusesBoth 16 = .ok (.iconst (-1), 1) := by decide +kernel
theorem dX10_refusesBoth_17 : decode cX10_refusesBoth 17 = .ok (.ireturn, 1) := by decide +kernel
theorem dX10_refusesBoth_18 : decode cX10_refusesBoth 18 = .ok (.aload_n 0, 1) := by decide +kernel
theorem dX10_refusesBoth_19 : decode cX10_refusesBoth 19 = .ok (.iload_n 1, 1) := by decide +kernel
theorem dX10_refusesBoth_20 : decode cX10_refusesBoth 20 = .ok (.invokevirtual 182, 3) := by decide +kernel
theorem dX10_refusesBoth_23 : decode cX10_refusesBoth 23 = .ok (.ifCond .le 12, 3) := by decide +kernel
theorem dX10_refusesBoth_26 : decode cX10_refusesBoth 26 = .ok (.aload_n 0, 1) := by decide +kernel
theorem dX10_refusesBoth_27 : decode cX10_refusesBoth 27 = .ok (.iload_n 1, 1) := by decide +kernel
theorem dX10_refusesBoth_28 : decode cX10_refusesBoth 28 = .ok (.invokevirtual 182, 3) := by decide +kernel
theorem dX10_refusesBoth_31 : decode cX10_refusesBoth 31 = .ok (.ineg, 1) := by decide +kernel
theorem dX10_refusesBoth_32 : decode cX10_refusesBoth 32 = .ok (.goto 9, 3) := by decide +kernel
theorem dX10_refusesBoth_35 : decode cX10_refusesBoth 35 = .ok (.aload_n 0, 1) := by decide +kernel
theorem dX10_refusesBoth_36 : decode cX10_refusesBoth 36 = .ok (.iload_n 2, 1) := by decide +kernel
theorem dX10_refusesBoth_37 : decode cX10_refusesBoth 37 = .ok (.invokevirtual 182, 3) := by decide +kernel
theorem dX10_refusesBoth_40 : decode cX10_refusesBoth 40 = .ok (.ineg, 1) := by decide +kernel
theorem dX10_refusesBoth_41 : decode cX10_refusesBoth 41 = .ok (.ireturn, 1) := by decide +kernel
set_option maxRecDepth 20000 in
theorem ggX10_copies_X10_refusesBoth : GoodIn wsX10_copies wsX10_refusesBoth := goodIn_r _ [7, 8, 9, 10, 6, 11, 12, 13, 14, 15, 16, 17, 18, 19, 20, 21, 22, 23, 24, 25, 26, 27, 109, 110, 111, 112, 113, 114, 115, 116, 117, 118, 119, 120, 121, 122, 123, 124, 125, 126, 127, 128, 129, 130, 131, 132, 133, 134] (by decide +kernel) (by decide +kernel)
set_option maxRecDepth 20000 in
theorem gX10_copies_X10_refusesBoth : GoodIn wsX10_copies (wsV RX10 241 RX10 yX10_refusesBoth wsX10_refusesBoth) := goodIn_app (goodIn_of _ (by decide +kernel)) ggX10_copies_X10_refusesBoth
set_option maxRecDepth 20000 in
theorem ggX10_copies_X10_change : GoodIn wsX10_copies wsX10_change := goodIn_r _ [31, 32, 33, 34, 6, 35, 36, 16, 37, 38, 39, 40, 41, 42, 109, 110, 111, 112, 113, 114, 115, 116, 117, 118, 119, 120, 121, 122, 123, 124, 125, 126, 127, 128, 129, 130, 131, 132, 133, 134] (by decide +kernel) (by decide +kernel)
set_option maxRecDepth 20000 in
theorem gX10_copies_X10_change : GoodIn wsX10_copies (wsV RX10 148 RX10 yX10_change wsX10_change) := goodIn_app (goodIn_of _ (by decide +kernel)) ggX10_copies_X10_change
set_option maxRecDepth 20000 in
theorem ggX10_copies_X10_rows : GoodIn wsX10_copies wsX10_rows := goodIn_r _ [46, 16, 109, 110, 111, 112, 113, 114, 115, 116, 117, 118, 119, 120, 121, 122, 123, 124, 125, 126, 127, 128, 129, 130, 131, 132, 133, 134] (by decide +kernel) (by decide +kernel)
set_option maxRecDepth 20000 in
theorem gX10_copies_X10_rows : GoodIn wsX10_copies (wsV RX10 82 RX10 yX10_rows wsX10_rows) := goodIn_app (goodIn_of _ (by decide +kernel)) ggX10_copies_X10_rows
set_option maxRecDepth 20000 in
theorem ggX10_copies_X10_wayOf : GoodIn wsX10_copies wsX10_wayOf := goodIn_r _ [50, 51, 24, 25, 26, 6, 27, 16, 52, 53, 54, 55, 56, 57, 58, 109, 110, 111, 112, 113, 114, 115, 116, 117, 118, 119, 120, 121, 122, 123, 124, 125, 126, 127, 128, 129, 130, 131, 132, 133, 134] (by decide +kernel) (by decide +kernel)
set_option maxRecDepth 20000 in
theorem gX10_copies_X10_wayOf : GoodIn wsX10_copies (wsV RX10 244 RX10 yX10_wayOf wsX10_wayOf) := goodIn_app (goodIn_of _ (by decide +kernel)) ggX10_copies_X10_wayOf
set_option maxRecDepth 20000 in
theorem ggX10_copies_X10_kindOf : GoodIn wsX10_copies wsX10_kindOf := goodIn_r _ [27, 16, 109, 110, 111, 112, 113, 114, 115, 116, 117, 118, 119, 120, 121, 122, 123, 124, 125, 126, 127, 128, 129, 130, 131, 132, 133, 134] (by decide +kernel) (by decide +kernel)
set_option maxRecDepth 20000 in
theorem gX10_copies_X10_kindOf : GoodIn wsX10_copies (wsV RX10 89 RX10 yX10_kindOf wsX10_kindOf) := goodIn_app (goodIn_of _ (by decide +kernel)) ggX10_copies_X10_kindOf
set_option maxRecDepth 20000 in
theorem ggX10_copies_X10_canHold : GoodIn wsX10_copies wsX10_canHold := goodIn_r _ [62, 63, 64, 6, 65, 66, 67, 68, 69] (by decide +kernel) (by decide +kernel)
set_option maxRecDepth 20000 in
theorem gX10_copies_X10_canHold : GoodIn wsX10_copies (wsV RX10 210 RX10 yX10_canHold wsX10_canHold) := goodIn_app (goodIn_of _ (by decide +kernel)) ggX10_copies_X10_canHold
set_option maxRecDepth 20000 in
theorem ggX10_copies_X10_cell : GoodIn wsX10_copies wsX10_cell := goodIn_r _ [55, 16, 56, 57, 6, 58, 109, 110, 111, 112, 113, 114, 115, 116, 117, 118, 119, 120, 121, 122, 123, 124, 125, 126, 127, 128, 129, 130, 131, 132, 133, 134] (by decide +kernel) (by decide +kernel)
set_option maxRecDepth 20000 in
theorem gX10_copies_X10_cell : GoodIn wsX10_copies (wsV RX10 234 RX10 yX10_cell wsX10_cell) := goodIn_app (goodIn_of _ (by decide +kernel)) ggX10_copies_X10_cell
set_option maxRecDepth 20000 in
theorem ggX10_copies_X10_store : GoodIn wsX10_copies wsX10_store := goodIn_r _ [73, 16, 63, 64, 6, 65, 56, 57, 58, 24, 25, 26, 27, 74, 75, 76, 77, 78, 79, 80, 81, 82, 83, 84, 85, 86, 87, 88, 89, 90, 91, 92, 93, 94, 95, 96, 97, 98, 99, 100, 101, 102, 103, 109, 110, 111, 112, 113, 114, 115, 116, 117, 118, 119, 120, 121, 122, 123, 124, 125, 126, 127, 128, 129, 130, 131, 132, 133, 134] (by decide +kernel) (by decide +kernel)
set_option maxRecDepth 20000 in
theorem gX10_copies_X10_store : GoodIn wsX10_copies (wsV RX10 220 RX10 yX10_store wsX10_store) := goodIn_app (goodIn_of _ (by decide +kernel)) ggX10_copies_X10_store
set_option maxRecDepth 20000 in
theorem ggX10_copies_X10_tell : GoodIn wsX10_copies wsX10_tell := goodIn_r _ [107, 108, 2, 109, 110, 111, 112, 113, 114, 115, 116, 117, 118, 119, 120, 121, 122, 123, 124, 125, 126, 127, 128, 129, 130, 131, 132, 133, 134] (by decide +kernel) (by decide +kernel)
set_option maxRecDepth 20000 in
theorem gX10_copies_X10_tell : GoodIn wsX10_copies (wsV RX10 237 RX10 yX10_tell wsX10_tell) := goodIn_app (goodIn_of _ (by decide +kernel)) ggX10_copies_X10_tell
theorem dX10_copies_0 : decode cX10_copies 0 = .ok (.aload_n 0, 1) := by decide +kernel
theorem dX10_copies_1 : decode cX10_copies 1 = .ok (.iconst 0, 1) := by decide +kernel
theorem dX10_copies_2 : decode cX10_copies 2 = .ok (.putfield 67, 3) := by decide +kernel
theorem dX10_copies_5 : decode cX10_copies 5 = .ok (.iload_n 1, 1) := by decide +kernel
theorem dX10_copies_6 : decode cX10_copies 6 = .ok (.iload_n 2, 1) := by decide +kernel
theorem dX10_copies_7 : decode cX10_copies 7 = .ok (.if_icmp .ne 7, 3) := by decide +kernel
theorem dX10_copies_10 : decode cX10_copies 10 = .ok (.iconst (-1), 1) := by decide +kernel
theorem dX10_copies_11 : decode cX10_copies 11 = .ok (.goto 9, 3) := by decide +kernel
theorem dX10_copies_14 : decode cX10_copies 14 = .ok (.aload_n 0, 1) := by decide +kernel
theorem dX10_copies_15 : decode cX10_copies 15 = .ok (.iload_n 1, 1) := by decide +kernel
theorem dX10_copies_16 : decode cX10_copies 16 = .ok (.iload_n 2, 1) := by decide +kernel
theorem dX10_copies_17 : decode cX10_copies 17 = .ok (.invokevirtual 241, 3) := by decide +kernel
theorem dX10_copies_20 : decode cX10_copies 20 = .ok (.istore_n 3, 1) := by decide +kernel
theorem dX10_copies_21 : decode cX10_copies 21 = .ok (.iload_n 3, 1) := by decide +kernel
theorem dX10_copies_22 : decode cX10_copies 22 = .ok (.ifCond .ge 5, 3) := by decide +kernel
theorem dX10_copies_25 : decode cX10_copies 25 = .ok (.iload_n 3, 1) := by decide +kernel
theorem dX10_copies_26 : decode cX10_copies 26 = .ok (.ireturn, 1) := by decide +kernel
theorem dX10_copies_27 : decode cX10_copies 27 = .ok (.aload_n 0, 1) := by decide +kernel
theorem dX10_copies_28 : decode cX10_copies 28 = .ok (.invokevirtual 148, 3) := by decide +kernel
theorem dX10_copies_31 : decode cX10_copies 31 = .ok (.iconst 0, 1) := by decide +kernel
theorem dX10_copies_32 : decode cX10_copies 32 = .ok (.istore 4, 2) := by decide +kernel
theorem dX10_copies_34 : decode cX10_copies 34 = .ok (.iconst 0, 1) := by decide +kernel
theorem dX10_copies_35 : decode cX10_copies 35 = .ok (.istore 5, 2) := by decide +kernel
theorem dX10_copies_37 : decode cX10_copies 37 = .ok (.iconst 0, 1) := by decide +kernel
theorem dX10_copies_38 : decode cX10_copies 38 = .ok (.istore 6, 2) := by decide +kernel
theorem dX10_copies_40 : decode cX10_copies 40 = .ok (.iload 6, 2) := by decide +kernel
theorem dX10_copies_42 : decode cX10_copies 42 = .ok (.aload_n 0, 1) := by decide +kernel
theorem dX10_copies_43 : decode cX10_copies 43 = .ok (.invokevirtual 82, 3) := by decide +kernel
theorem dX10_copies_46 : decode cX10_copies 46 = .ok (.if_icmp .ge 63, 3) := by decide +kernel
theorem dX10_copies_49 : decode cX10_copies 49 = .ok (.aload_n 0, 1) := by decide +kernel
theorem dX10_copies_50 : decode cX10_copies 50 = .ok (.iload_n 1, 1) := by decide +kernel
theorem dX10_copies_51 : decode cX10_copies 51 = .ok (.iload 6, 2) := by decide +kernel
theorem dX10_copies_53 : decode cX10_copies 53 = .ok (.invokevirtual 244, 3) := by decide +kernel
theorem dX10_copies_56 : decode cX10_copies 56 = .ok (.istore 7, 2) := by decide +kernel
theorem dX10_copies_58 : decode cX10_copies 58 = .ok (.aload_n 0, 1) := by decide +kernel
theorem dX10_copies_59 : decode cX10_copies 59 = .ok (.aload_n 0, 1) := by decide +kernel
theorem dX10_copies_60 : decode cX10_copies 60 = .ok (.iload_n 2, 1) := by decide +kernel
theorem dX10_copies_61 : decode cX10_copies 61 = .ok (.invokevirtual 89, 3) := by decide +kernel
theorem dX10_copies_64 : decode cX10_copies 64 = .ok (.iload 7, 2) := by decide +kernel
theorem dX10_copies_66 : decode cX10_copies 66 = .ok (.invokevirtual 210, 3) := by decide +kernel
theorem dX10_copies_69 : decode cX10_copies 69 = .ok (.ifCond .eq 25, 3) := by decide +kernel
theorem dX10_copies_72 : decode cX10_copies 72 = .ok (.aload_n 0, 1) := by decide +kernel
theorem dX10_copies_73 : decode cX10_copies 73 = .ok (.iload_n 2, 1) := by decide +kernel
theorem dX10_copies_74 : decode cX10_copies 74 = .ok (.iload 6, 2) := by decide +kernel
theorem dX10_copies_76 : decode cX10_copies 76 = .ok (.iload 7, 2) := by decide +kernel
theorem dX10_copies_78 : decode cX10_copies 78 = .ok (.aload_n 0, 1) := by decide +kernel
theorem dX10_copies_79 : decode cX10_copies 79 = .ok (.iload_n 1, 1) := by decide +kernel
theorem dX10_copies_80 : decode cX10_copies 80 = .ok (.iload 6, 2) := by decide +kernel
theorem dX10_copies_82 : decode cX10_copies 82 = .ok (.invokevirtual 234, 3) := by decide +kernel
theorem dX10_copies_85 : decode cX10_copies 85 = .ok (.invokevirtual 220, 3) := by decide +kernel
theorem dX10_copies_88 : decode cX10_copies 88 = .ok (.iinc 4 1, 3) := by decide +kernel
theorem dX10_copies_91 : decode cX10_copies 91 = .ok (.goto 12, 3) := by decide +kernel
theorem dX10_copies_94 : decode cX10_copies 94 = .ok (.iload 5, 2) := by decide +kernel
theorem dX10_copies_96 : decode cX10_copies 96 = .ok (.iconst 1, 1) := by decide +kernel
theorem dX10_copies_97 : decode cX10_copies 97 = .ok (.iload 6, 2) := by decide +kernel
theorem dX10_copies_99 : decode cX10_copies 99 = .ok (.ishl, 1) := by decide +kernel
theorem dX10_copies_100 : decode cX10_copies 100 = .ok (.ior, 1) := by decide +kernel
theorem dX10_copies_101 : decode cX10_copies 101 = .ok (.istore 5, 2) := by decide +kernel
theorem dX10_copies_103 : decode cX10_copies 103 = .ok (.iinc 6 1, 3) := by decide +kernel
theorem dX10_copies_106 : decode cX10_copies 106 = .ok (.goto (-66), 3) := by decide +kernel
theorem dX10_copies_109 : decode cX10_copies 109 = .ok (.aload_n 0, 1) := by decide +kernel
theorem dX10_copies_110 : decode cX10_copies 110 = .ok (.iconst 0, 1) := by decide +kernel
theorem dX10_copies_111 : decode cX10_copies 111 = .ok (.putfield 71, 3) := by decide +kernel
theorem dX10_copies_114 : decode cX10_copies 114 = .ok (.aload_n 0, 1) := by decide +kernel
theorem dX10_copies_115 : decode cX10_copies 115 = .ok (.iload 5, 2) := by decide +kernel
theorem dX10_copies_117 : decode cX10_copies 117 = .ok (.i2l, 1) := by decide +kernel
theorem dX10_copies_118 : decode cX10_copies 118 = .ok (.invokevirtual 237, 3) := by decide +kernel
theorem dX10_copies_121 : decode cX10_copies 121 = .ok (.iload 4, 2) := by decide +kernel
theorem dX10_copies_123 : decode cX10_copies 123 = .ok (.ireturn, 1) := by decide +kernel
theorem dX10_worth_0 : decode cX10_worth 0 = .ok (.iload_n 0, 1) := by decide +kernel
theorem dX10_worth_1 : decode cX10_worth 1 = .ok (.bipush 6, 2) := by decide +kernel
