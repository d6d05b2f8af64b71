theorem dX10_alike_157 : decode cX10_alike 157 = .ok (.invokevirtual 237, 3) := by decide +kernel
theorem dX10_alike_160 : decode cX10_alike 160 = .ok (.iload 4, 2) := by decide +kernel
theorem dX10_alike_162 : decode cX10_alike 162 = .ok (.ireturn, 1) := by decide +kernel
theorem dX10_against_0 : decode cX10_against 0 = .ok (.iconst 0, 1) := by decide +kernel
theorem dX10_against_1 : decode cX10_against 1 = .ok (.istore 4, 2) := by decide +kernel
theorem dX10_against_3 : decode cX10_against 3 = .ok (.iconst 0, 1) := by decide +kernel
theorem dX10_against_4 : decode cX10_against 4 = .ok (.istore 5, 2) := by decide +kernel
theorem dX10_against_6 : decode cX10_against 6 = .ok (.iload 5, 2) := by decide +kernel
theorem dX10_against_8 : decode cX10_against 8 = .ok (.aload_n 0, 1) := by decide +kernel
theorem dX10_against_9 : decode cX10_against 9 = .ok (.getfield 297, 3) := by decide +kernel
theorem dX10_against_12 : decode cX10_against 12 = .ok (.if_icmp .ge 87, 3) := by decide +kernel
theorem dX10_against_15 : decode cX10_against 15 = .ok (.aload_n 0, 1) := by decide +kernel
theorem dX10_against_16 : decode cX10_against 16 = .ok (.getfield 26, 3) := by decide +kernel
theorem dX10_against_19 : decode cX10_against 19 = .ok (.bipush 16, 2) := by decide +kernel
theorem dX10_against_21 : decode cX10_against 21 = .ok (.aload_n 0, 1) := by decide +kernel
theorem dX10_against_22 : decode cX10_against 22 = .ok (.getfield 38, 3) := by decide +kernel
theorem dX10_against_25 : decode cX10_against 25 = .ok (.iload 5, 2) := by decide +kernel
theorem dX10_against_27 : decode cX10_against 27 = .ok (.iaload, 1) := by decide +kernel
theorem dX10_against_28 : decode cX10_against 28 = .ok (.imul, 1) := by decide +kernel
theorem dX10_against_29 : decode cX10_against 29 = .ok (.iload_n 1, 1) := by decide +kernel
theorem dX10_against_30 : decode cX10_against 30 = .ok (.iadd, 1) := by decide +kernel
theorem dX10_against_31 : decode cX10_against 31 = .ok (.iaload, 1) := by decide +kernel
theorem dX10_against_32 : decode cX10_against 32 = .ok (.istore 6, 2) := by decide +kernel
theorem dX10_against_34 : decode cX10_against 34 = .ok (.aload_n 0, 1) := by decide +kernel
theorem dX10_against_35 : decode cX10_against 35 = .ok (.getfield 26, 3) := by decide +kernel
theorem dX10_against_38 : decode cX10_against 38 = .ok (.bipush 16, 2) := by decide +kernel
theorem dX10_against_40 : decode cX10_against 40 = .ok (.aload_n 0, 1) := by decide +kernel
theorem dX10_against_41 : decode cX10_against 41 = .ok (.getfield 38, 3) := by decide +kernel
theorem dX10_against_44 : decode cX10_against 44 = .ok (.iload 5, 2) := by decide +kernel
theorem dX10_against_46 : decode cX10_against 46 = .ok (.iaload, 1) := by decide +kernel
theorem dX10_against_47 : decode cX10_against 47 = .ok (.imul, 1) := by decide +kernel
theorem dX10_against_48 : decode cX10_against 48 = .ok (.iload_n 2, 1) := by decide +kernel
theorem dX10_against_49 : decode cX10_against 49 = .ok (.iadd, 1) := by decide +kernel
theorem dX10_against_50 : decode cX10_against 50 = .ok (.iaload, 1) := by decide +kernel
theorem dX10_against_51 : decode cX10_against 51 = .ok (.istore 7, 2) := by decide +kernel
theorem dX10_against_53 : decode cX10_against 53 = .ok (.iload 6, 2) := by decide +kernel
theorem dX10_against_55 : decode cX10_against 55 = .ok (.iload 7, 2) := by decide +kernel
theorem dX10_against_57 : decode cX10_against 57 = .ok (.if_icmp .eq 29, 3) := by decide +kernel
theorem dX10_against_60 : decode cX10_against 60 = .ok (.iload_n 3, 1) := by decide +kernel
theorem dX10_against_61 : decode cX10_against 61 = .ok (.ifCond .eq 19, 3) := by decide +kernel
theorem dX10_against_64 : decode cX10_against 64 = .ok (.iload 4, 2) := by decide +kernel
theorem dX10_against_66 : decode cX10_against 66 = .ok (.iconst 2, 1) := by decide +kernel
theorem dX10_against_67 : decode cX10_against 67 = .ok (.irem, 1) := by decide +kernel
theorem dX10_against_68 : decode cX10_against 68 = .ok (.iconst 1, 1) := by decide +kernel
theorem dX10_against_69 : decode cX10_against 69 = .ok (.if_icmp .ne 11, 3) := by decide +kernel
theorem dX10_against_72 : decode cX10_against 72 = .ok (.iload 7, 2) := by decide +kernel
theorem dX10_against_74 : decode cX10_against 74 = .ok (.iload 6, 2) := by decide +kernel
theorem dX10_against_76 : decode cX10_against 76 = .ok (.isub, 1) := by decide +kernel
theorem dX10_against_77 : decode cX10_against 77 = .ok (.goto 8, 3) := by decide +kernel
theorem dX10_against_80 : decode cX10_against 80 = .ok (.iload 6, 2) := by decide +kernel
theorem dX10_against_82 : decode cX10_against 82 = .ok (.iload 7, 2) := by decide +kernel
theorem dX10_against_84 : decode cX10_against 84 = .ok (.isub, 1) := by decide +kernel
theorem dX10_against_85 : decode cX10_against 85 = .ok (.ireturn, 1) := by decide +kernel
theorem dX10_against_86 : decode cX10_against 86 = .ok (.iload 4, 2) := by decide +kernel
theorem dX10_against_88 : decode cX10_against 88 = .ok (.iload 6, 2) := by decide +kernel
theorem dX10_against_90 : decode cX10_against 90 = .ok (.iadd, 1) := by decide +kernel
theorem dX10_against_91 : decode cX10_against 91 = .ok (.istore 4, 2) := by decide +kernel
theorem dX10_against_93 : decode cX10_against 93 = .ok (.iinc 5 1, 3) := by decide +kernel
theorem dX10_against_96 : decode cX10_against 96 = .ok (.goto (-90), 3) := by decide +kernel
theorem dX10_against_99 : decode cX10_against 99 = .ok (.iconst 0, 1) := by decide +kernel
theorem dX10_against_100 : decode cX10_against 100 = .ok (.ireturn, 1) := by decide +kernel
set_option maxRecDepth 20000 in
theorem ggX10_sortLine_X10_rows : GoodIn wsX10_sortLine wsX10_rows := goodIn_r _ [6, 7, 15, 16, 17, 18, 19, 20, 21, 22, 23, 24, 25, 26, 27, 28, 29, 30, 31, 32, 33, 34, 35, 36, 37, 38, 39, 40] (by decide +kernel) (by decide +kernel)
set_option maxRecDepth 20000 in
theorem gX10_sortLine_X10_rows : GoodIn wsX10_sortLine (wsV RX10 82 RX10 yX10_rows wsX10_rows) := goodIn_app (goodIn_of _ (by decide +kernel)) ggX10_sortLine_X10_rows
set_option maxRecDepth 20000 in
theorem ggX10_sortLine_X10_against : GoodIn wsX10_sortLine wsX10_against := goodIn_r _ [11, 12, 13, 14, 15, 16, 17, 18, 19, 20, 21, 22, 23, 24, 25, 26, 27, 28, 29, 30, 31, 32, 33, 34, 35, 36, 37, 38, 39, 40] (by decide +kernel) (by decide +kernel)
set_option maxRecDepth 20000 in
theorem gX10_sortLine_X10_against : GoodIn wsX10_sortLine (wsV RX10 311 RX10 yX10_against wsX10_against) := goodIn_app (goodIn_of _ (by decide +kernel)) ggX10_sortLine_X10_against
theorem dX10_sortLine_0 : decode cX10_sortLine 0 = .ok (.iconst 1, 1) := by decide +kernel
theorem dX10_sortLine_1 : decode cX10_sortLine 1 = .ok (.istore_n 2, 1) := by decide +kernel
theorem dX10_sortLine_2 : decode cX10_sortLine 2 = .ok (.iload_n 2, 1) := by decide +kernel
theorem dX10_sortLine_3 : decode cX10_sortLine 3 = .ok (.aload_n 0, 1) := by decide +kernel
theorem dX10_sortLine_4 : decode cX10_sortLine 4 = .ok (.invokevirtual 82, 3) := by decide +kernel
theorem dX10_sortLine_7 : decode cX10_sortLine 7 = .ok (.if_icmp .ge 72, 3) := by decide +kernel
theorem dX10_sortLine_10 : decode cX10_sortLine 10 = .ok (.aload_n 0, 1) := by decide +kernel
theorem dX10_sortLine_11 : decode cX10_sortLine 11 = .ok (.getfield 35, 3) := by decide +kernel
theorem dX10_sortLine_14 : decode cX10_sortLine 14 = .ok (.iload_n 2, 1) := by decide +kernel
theorem dX10_sortLine_15 : decode cX10_sortLine 15 = .ok (.iaload, 1) := by decide +kernel
theorem dX10_sortLine_16 : decode cX10_sortLine 16 = .ok (.istore_n 3, 1) := by decide +kernel
theorem dX10_sortLine_17 : decode cX10_sortLine 17 = .ok (.iload_n 2, 1) := by decide +kernel
theorem dX10_sortLine_18 : decode cX10_sortLine 18 = .ok (.istore 4, 2) := by decide +kernel
theorem dX10_sortLine_20 : decode cX10_sortLine 20 = .ok (.iload 4, 2) := by decide +kernel
theorem dX10_sortLine_22 : decode cX10_sortLine 22 = .ok (.ifCond .le 43, 3) := by decide +kernel
theorem dX10_sortLine_25 : decode cX10_sortLine 25 = .ok (.aload_n 0, 1) := by decide +kernel
theorem dX10_sortLine_26 : decode cX10_sortLine 26 = .ok (.aload_n 0, 1) := by decide +kernel
theorem dX10_sortLine_27 : decode cX10_sortLine 27 = .ok (.getfield 35, 3) := by decide +kernel
theorem dX10_sortLine_30 : decode cX10_sortLine 30 = .ok (.iload 4, 2) := by decide +kernel
theorem dX10_sortLine_32 : decode cX10_sortLine 32 = .ok (.iconst 1, 1) := by decide +kernel
theorem dX10_sortLine_33 : decode cX10_sortLine 33 = .ok (.isub, 1) := by decide +kernel
theorem dX10_sortLine_34 : decode cX10_sortLine 34 = .ok (.iaload, 1) := by decide +kernel
theorem dX10_sortLine_35 : decode cX10_sortLine 35 = .ok (.iload_n 3, 1) := by decide +kernel
theorem dX10_sortLine_36 : decode cX10_sortLine 36 = .ok (.iload_n 1, 1) := by decide +kernel
theorem dX10_sortLine_37 : decode cX10_sortLine 37 = .ok (.invokevirtual 311, 3) := by decide +kernel
theorem dX10_sortLine_40 : decode cX10_sortLine 40 = .ok (.ifCond .le 25, 3) := by decide +kernel
theorem dX10_sortLine_43 : decode cX10_sortLine 43 = .ok (.aload_n 0, 1) := by decide +kernel
theorem dX10_sortLine_44 : decode cX10_sortLine 44 = .ok (.getfield 35, 3) := by decide +kernel
theorem dX10_sortLine_47 : decode cX10_sortLine 47 = .ok (.iload 4, 2) := by decide +kernel
theorem dX10_sortLine_49 : decode cX10_sortLine 49 = .ok (.aload_n 0, 1) := by decide +kernel
theorem dX10_sortLine_50 : decode cX10_sortLine 50 = .ok (.getfield 35, 3) := by decide +kernel
theorem dX10_sortLine_53 : decode cX10_sortLine 53 = .ok (.iload 4, 2) := by decide +kernel
theorem dX10_sortLine_55 : decode cX10_sortLine 55 = .ok (.iconst 1, 1) := by decide +kernel
theorem dX10_sortLine_56 : decode cX10_sortLine 56 = .ok (.isub, 1) := by decide +kernel
theorem dX10_sortLine_57 : decode cX10_sortLine 57 = .ok (.iaload, 1) := by decide +kernel
theorem dX10_sortLine_58 : decode cX10_sortLine 58 = .ok (.iastore, 1) := by decide +kernel
theorem dX10_sortLine_59 : decode cX10_sortLine 59 = .ok (.iinc 4 (-1), 3) := by decide +kernel
theorem dX10_sortLine_62 : decode cX10_sortLine 62 = .ok (.goto (-42), 3) := by decide +kernel
theorem dX10_sortLine_65 : decode cX10_sortLine 65 = .ok (.aload_n 0, 1) := by decide +kernel
theorem dX10_sortLine_66 : decode cX10_sortLine 66 = .ok (.getfield 35, 3) := by decide +kernel
theorem dX10_sortLine_69 : decode cX10_sortLine 69 = .ok (.iload 4, 2) := by decide +kernel
theorem dX10_sortLine_71 : decode cX10_sortLine 71 = .ok (.iload_n 3, 1) := by decide +kernel
theorem dX10_sortLine_72 : decode cX10_sortLine 72 = .ok (.iastore, 1) := by decide +kernel
theorem dX10_sortLine_73 : decode cX10_sortLine 73 = .ok (.iinc 2 1, 3) := by decide +kernel
theorem dX10_sortLine_76 : decode cX10_sortLine 76 = .ok (.goto (-74), 3) := by decide +kernel
theorem dX10_sortLine_79 : decode cX10_sortLine 79 = .ok (.return_, 1) := by decide +kernel
set_option maxRecDepth 20000 in
theorem ggX10_takeLine_X10_rows : GoodIn wsX10_takeLine wsX10_rows := goodIn_r _ [8, 2, 16, 17, 18, 19, 20, 21, 22, 23, 24, 25, 26, 27, 28, 29, 30, 31, 32, 33, 34, 35, 36, 37, 38, 39, 40, 41] (by decide +kernel) (by decide +kernel)
set_option maxRecDepth 20000 in
theorem gX10_takeLine_X10_rows : GoodIn wsX10_takeLine (wsV RX10 82 RX10 yX10_rows wsX10_rows) := goodIn_app (goodIn_of _ (by decide +kernel)) ggX10_takeLine_X10_rows
set_option maxRecDepth 20000 in
theorem ggX10_takeLine_X10_columns : GoodIn wsX10_takeLine wsX10_columns := goodIn_r _ [12, 2, 16, 17, 18, 19, 20, 21, 22, 23, 24, 25, 26, 27, 28, 29, 30, 31, 32, 33, 34, 35, 36, 37, 38, 39, 40, 41] (by decide +kernel) (by decide +kernel)
set_option maxRecDepth 20000 in
theorem gX10_takeLine_X10_columns : GoodIn wsX10_takeLine (wsV RX10 74 RX10 yX10_columns wsX10_columns) := goodIn_app (goodIn_of _ (by decide +kernel)) ggX10_takeLine_X10_columns
set_option maxRecDepth 20000 in
theorem ggX10_takeLine_X10_cellAt : GoodIn wsX10_takeLine wsX10_cellAt := goodIn_r _ [15] (by decide +kernel) (by decide +kernel)
set_option maxRecDepth 20000 in
theorem gX10_takeLine_X10_cellAt : GoodIn wsX10_takeLine (va_wsS RX10 93 yX10_cellAt wsX10_cellAt) := goodIn_app (goodIn_of _ (by decide +kernel)) ggX10_takeLine_X10_cellAt
theorem dX10_takeLine_0 : decode cX10_takeLine 0 = .ok (.iconst 0, 1) := by decide +kernel
theorem dX10_takeLine_1 : decode cX10_takeLine 1 = .ok (.istore_n 1, 1) := by decide +kernel
theorem dX10_takeLine_2 : decode cX10_takeLine 2 = .ok (.iload_n 1, 1) := by decide +kernel
theorem dX10_takeLine_3 : decode cX10_takeLine 3 = .ok (.bipush 120, 2) := by decide +kernel
theorem dX10_takeLine_5 : decode cX10_takeLine 5 = .ok (.if_icmp .ge 21, 3) := by decide +kernel
theorem dX10_takeLine_8 : decode cX10_takeLine 8 = .ok (.aload_n 0, 1) := by decide +kernel
theorem dX10_takeLine_9 : decode cX10_takeLine 9 = .ok (.getfield 41, 3) := by decide +kernel
theorem dX10_takeLine_12 : decode cX10_takeLine 12 = .ok (.iload_n 1, 1) := by decide +kernel
theorem dX10_takeLine_13 : decode cX10_takeLine 13 = .ok (.aload_n 0, 1) := by decide +kernel
theorem dX10_takeLine_14 : decode cX10_takeLine 14 = .ok (.getfield 11, 3) := by decide +kernel
theorem dX10_takeLine_17 : decode cX10_takeLine 17 = .ok (.iload_n 1, 1) := by decide +kernel
theorem dX10_takeLine_18 : decode cX10_takeLine 18 = .ok (.laload, 1) := by decide +kernel
theorem dX10_takeLine_19 : decode cX10_takeLine 19 = .ok (.lastore, 1) := by decide +kernel
theorem dX10_takeLine_20 : decode cX10_takeLine 20 = .ok (.iinc 1 1, 3) := by decide +kernel
theorem dX10_takeLine_23 : decode cX10_takeLine 23 = .ok (.goto (-21), 3) := by decide +kernel
theorem dX10_takeLine_26 : decode cX10_takeLine 26 = .ok (.iconst 0, 1) := by decide +kernel
theorem dX10_takeLine_27 : decode cX10_takeLine 27 = .ok (.istore_n 1, 1) := by decide +kernel
theorem dX10_takeLine_28 : decode cX10_takeLine 28 = .ok (.iconst 0, 1) := by decide +kernel
theorem dX10_takeLine_29 : decode cX10_takeLine 29 = .ok (.istore_n 2, 1) := by decide +kernel
theorem dX10_takeLine_30 : decode cX10_takeLine 30 = .ok (.iload_n 2, 1) := by decide +kernel
theorem dX10_takeLine_31 : decode cX10_takeLine 31 = .ok (.aload_n 0, 1) := by decide +kernel
theorem dX10_takeLine_32 : decode cX10_takeLine 32 = .ok (.invokevirtual 82, 3) := by decide +kernel
theorem dX10_takeLine_35 : decode cX10_takeLine 35 = .ok (.if_icmp .ge 91, 3) := by decide +kernel
theorem dX10_takeLine_38 : decode cX10_takeLine 38 = .ok (.iload_n 1, 1) := by decide +kernel
theorem dX10_takeLine_39 : decode cX10_takeLine 39 = .ok (.aload_n 0, 1) := by decide +kernel
theorem dX10_takeLine_40 : decode cX10_takeLine 40 = .ok (.getfield 35, 3) := by decide +kernel
theorem dX10_takeLine_43 : decode cX10_takeLine 43 = .ok (.iload_n 2, 1) := by decide +kernel
theorem dX10_takeLine_44 : decode cX10_takeLine 44 = .ok (.iaload, 1) := by decide +kernel
theorem dX10_takeLine_45 : decode cX10_takeLine 45 = .ok (.iload_n 2, 1) := by decide +kernel
theorem dX10_takeLine_46 : decode cX10_takeLine 46 = .ok (.if_icmp .eq 7, 3) := by decide +kernel
theorem dX10_takeLine_49 : decode cX10_takeLine 49 = .ok (.iconst 1, 1) := by decide +kernel
theorem dX10_takeLine_50 : decode cX10_takeLine 50 = .ok (.goto 4, 3) := by decide +kernel
theorem dX10_takeLine_53 : decode cX10_takeLine 53 = .ok (.iconst 0, 1) := by decide +kernel
theorem dX10_takeLine_54 : decode cX10_takeLine 54 = .ok (.iadd, 1) := by decide +kernel
theorem dX10_takeLine_55 : decode cX10_takeLine 55 = .ok (.istore_n 1, 1) := by decide +kernel
theorem dX10_takeLine_56 : decode cX10_takeLine 56 = .ok (.aload_n 0, 1) := by decide +kernel
theorem dX10_takeLine_57 : decode cX10_takeLine 57 = .ok (.getfield 11, 3) := by decide +kernel
theorem dX10_takeLine_60 : decode cX10_takeLine 60 = .ok (.bipush 8, 2) := by decide +kernel
theorem dX10_takeLine_62 : decode cX10_takeLine 62 = .ok (.iload_n 2, 1) := by decide +kernel
theorem dX10_takeLine_63 : decode cX10_takeLine 63 = .ok (.iadd, 1) := by decide +kernel
theorem dX10_takeLine_64 : decode cX10_takeLine 64 = .ok (.aload_n 0, 1) := by decide +kernel
theorem dX10_takeLine_65 : decode cX10_takeLine 65 = .ok (.getfield 41, 3) := by decide +kernel
theorem dX10_takeLine_68 : decode cX10_takeLine 68 = .ok (.bipush 8, 2) := by decide +kernel
theorem dX10_takeLine_70 : decode cX10_takeLine 70 = .ok (.aload_n 0, 1) := by decide +kernel
theorem dX10_takeLine_71 : decode cX10_takeLine 71 = .ok (.getfield 35, 3) := by decide +kernel
theorem dX10_takeLine_74 : decode cX10_takeLine 74 = .ok (.iload_n 2, 1) := by decide +kernel
theorem dX10_takeLine_75 : decode cX10_takeLine 75 = .ok (.iaload, 1) := by decide +kernel
theorem dX10_takeLine_76 : decode cX10_takeLine 76 = .ok (.iadd, 1) := by decide +kernel
theorem dX10_takeLine_77 : decode cX10_takeLine 77 = .ok (.laload, 1) := by decide +kernel
theorem dX10_takeLine_78 : decode cX10_takeLine 78 = .ok (.lastore, 1) := by decide +kernel
theorem dX10_takeLine_79 : decode cX10_takeLine 79 = .ok (.iconst 0, 1) := by decide +kernel
theorem dX10_takeLine_80 : decode cX10_takeLine 80 = .ok (.istore_n 3, 1) := by decide +kernel
theorem dX10_takeLine_81 : decode cX10_takeLine 81 = .ok (.iload_n 3, 1) := by decide +kernel
theorem dX10_takeLine_82 : decode cX10_takeLine 82 = .ok (.aload_n 0, 1) := by decide +kernel
theorem dX10_takeLine_83 : decode cX10_takeLine 83 = .ok (.invokevirtual 74, 3) := by decide +kernel
theorem dX10_takeLine_86 : decode cX10_takeLine 86 = .ok (.if_icmp .ge 34, 3) := by decide +kernel
theorem dX10_takeLine_89 : decode cX10_takeLine 89 = .ok (.aload_n 0, 1) := by decide +kernel
theorem dX10_takeLine_90 : decode cX10_takeLine 90 = .ok (.getfield 11, 3) := by decide +kernel
theorem dX10_takeLine_93 : decode cX10_takeLine 93 = .ok (.iload_n 3, 1) := by decide +kernel
theorem dX10_takeLine_94 : decode cX10_takeLine 94 = .ok (.iload_n 2, 1) := by decide +kernel
theorem dX10_takeLine_95 : decode cX10_takeLine 95 = .ok (.invokestatic 93, 3) := by decide +kernel
theorem dX10_takeLine_98 : decode cX10_takeLine 98 = .ok (.aload_n 0, 1) := by decide +kernel
theorem dX10_takeLine_99 : decode cX10_takeLine 99 = .ok (.getfield 41, 3) := by decide +kernel
theorem dX10_takeLine_102 : decode cX10_takeLine 102 = .ok (.iload_n 3, 1) := by decide +kernel
theorem dX10_takeLine_103 : decode cX10_takeLine 103 = .ok (.aload_n 0, 1) := by decide +kernel
theorem dX10_takeLine_104 : decode cX10_takeLine 104 = .ok (.getfield 35, 3) := by decide +kernel
theorem dX10_takeLine_107 : decode cX10_takeLine 107 = .ok (.iload_n 2, 1) := by decide +kernel
theorem dX10_takeLine_108 : decode cX10_takeLine 108 = .ok (.iaload, 1) := by decide +kernel
theorem dX10_takeLine_109 : decode cX10_takeLine 109 = .ok (.invokestatic 93, 3) := by decide +kernel
theorem dX10_takeLine_112 : decode cX10_takeLine 112 = .ok (.laload, 1) := by decide +kernel
theorem dX10_takeLine_113 : decode cX10_takeLine 113 = .ok (.lastore, 1) := by decide +kernel
theorem dX10_takeLine_114 : decode cX10_takeLine 114 = .ok (.iinc 3 1, 3) := by decide +kernel
theorem dX10_takeLine_117 : decode cX10_takeLine 117 = .ok (.goto (-36), 3) := by decide +kernel
theorem dX10_takeLine_120 : decode cX10_takeLine 120 = .ok (.iinc 2 1, 3) := by decide +kernel
theorem dX10_takeLine_123 : decode cX10_takeLine 123 = .ok (.goto (-93), 3) := by decide +kernel
theorem dX10_takeLine_126 : decode cX10_takeLine 126 = .ok (.iload_n 1, 1) := by decide +kernel
theorem dX10_takeLine_127 : decode cX10_takeLine 127 = .ok (.ireturn, 1) := by decide +kernel
set_option maxRecDepth 20000 in
theorem ggX10_sorts_X10_readOrder : GoodIn wsX10_sorts wsX10_readOrder := goodIn_r _ [8, 9, 10, 11, 12, 13, 14, 7, 15, 16, 2, 17, 18, 19, 20, 21, 22, 23, 24, 25, 26, 27, 28, 29, 30, 31, 32, 33, 34, 35, 36, 37, 38, 39, 40, 41, 42, 43, 44, 45, 46, 47, 48, 49, 50, 51, 52, 53, 54, 55, 56, 57, 58, 59, 60, 61, 62, 157, 158, 159, 160, 161, 162, 163, 164, 165, 166, 167, 168, 169, 170, 171, 172, 173, 174, 175, 176, 177, 178, 179, 180, 181, 182] (by decide +kernel) (by decide +kernel)
set_option maxRecDepth 20000 in
theorem gX10_sorts_X10_readOrder : GoodIn wsX10_sorts (wsV RX10 303 RX10 yX10_readOrder wsX10_readOrder) := goodIn_app (goodIn_of _ (by decide +kernel)) ggX10_sorts_X10_readOrder
set_option maxRecDepth 20000 in
theorem ggX10_sorts_X10_change : GoodIn wsX10_sorts wsX10_change := goodIn_r _ [66, 67, 68, 69, 7, 70, 71, 25, 72, 73, 74, 75, 76, 77, 157, 158, 159, 160, 161, 162, 163, 164, 165, 166, 167, 168, 169, 170, 171, 172, 173, 174, 175, 176, 177, 178, 179, 180, 181, 182] (by decide +kernel) (by decide +kernel)
set_option maxRecDepth 20000 in
theorem gX10_sorts_X10_change : GoodIn wsX10_sorts (wsV RX10 148 RX10 yX10_change wsX10_change) := goodIn_app (goodIn_of _ (by decide +kernel)) ggX10_sorts_X10_change
set_option maxRecDepth 20000 in
theorem ggX10_sorts_X10_runsNow : GoodIn wsX10_sorts wsX10_runsNow := goodIn_r _ [81, 82, 83, 84, 7, 85, 86, 87, 88, 89, 90, 25, 91, 92, 93, 94, 95, 96, 97, 98, 21, 22, 23, 24, 47, 48, 49, 50, 51, 52, 53, 54, 35, 36, 37, 55, 56, 57, 58, 99, 100, 101, 102, 103, 104, 105, 106, 107, 108, 109, 110, 111, 112, 113, 114, 115, 116, 117, 118, 119, 120, 121, 122, 123, 124, 125, 126, 127, 128, 129, 130, 131, 132, 133, 134, 135, 136, 137, 138, 157, 158, 159, 160, 161, 162, 163, 164, 165, 166, 167, 168, 169, 170, 171, 172, 173, 174, 175, 176, 177, 178, 179, 180, 181, 182] (by decide +kernel) (by decide +kernel)
set_option maxRecDepth 20000 in
theorem gX10_sorts_X10_runsNow : GoodIn wsX10_sorts (wsV RX10 288 RX10 yX10_runsNow wsX10_runsNow) := goodIn_app (goodIn_of _ (by decide +kernel)) ggX10_sorts_X10_runsNow
set_option maxRecDepth 20000 in
theorem ggX10_sorts_X10_sortLine : GoodIn wsX10_sorts wsX10_sortLine := goodIn_r _ [142, 86, 87, 88, 89, 7, 90, 25, 143, 144, 145, 146, 9, 98, 46, 157, 158, 159, 160, 161, 162, 163, 164, 165, 166, 167, 168, 169, 170, 171, 172, 173, 174, 175, 176, 177, 178, 179, 180, 181, 182] (by decide +kernel) (by decide +kernel)
set_option maxRecDepth 20000 in
theorem gX10_sorts_X10_sortLine : GoodIn wsX10_sorts (wsV RX10 315 RX10 yX10_sortLine wsX10_sortLine) := goodIn_app (goodIn_of _ (by decide +kernel)) ggX10_sorts_X10_sortLine
set_option maxRecDepth 20000 in
theorem ggX10_sorts_X10_runsOfLine : GoodIn wsX10_sorts wsX10_runsOfLine := goodIn_r _ [134, 95, 96, 135, 136, 137, 7, 138, 98, 86, 87, 88, 89, 90, 25, 157, 158, 159, 160, 161, 162, 163, 164, 165, 166, 167, 168, 169, 170, 171, 172, 173, 174, 175, 176, 177, 178, 179, 180, 181, 182] (by decide +kernel) (by decide +kernel)
set_option maxRecDepth 20000 in
theorem gX10_sorts_X10_runsOfLine : GoodIn wsX10_sorts (wsV RX10 285 RX10 yX10_runsOfLine wsX10_runsOfLine) := goodIn_app (goodIn_of _ (by decide +kernel)) ggX10_sorts_X10_runsOfLine
set_option maxRecDepth 20000 in
theorem ggX10_sorts_X10_tell : GoodIn wsX10_sorts wsX10_tell := goodIn_r _ [150, 151, 3, 157, 158, 159, 160, 161, 162, 163, 164, 165, 166, 167, 168, 169, 170, 171, 172, 173, 174, 175, 176, 177, 178, 179, 180, 181, 182] (by decide +kernel) (by decide +kernel)
set_option maxRecDepth 20000 in
theorem gX10_sorts_X10_tell : GoodIn wsX10_sorts (wsV RX10 237 RX10 yX10_tell wsX10_tell) := goodIn_app (goodIn_of _ (by decide +kernel)) ggX10_sorts_X10_tell
set_option maxRecDepth 20000 in
theorem ggX10_sorts_X10_takeLine : GoodIn wsX10_sorts wsX10_takeLine := goodIn_r _ [155, 156, 25, 86, 87, 88, 89, 7, 90, 21, 22, 23, 24, 111, 112, 113, 157, 158, 159, 160, 161, 162, 163, 164, 165, 166, 167, 168, 169, 170, 171, 172, 173, 174, 175, 176, 177, 178, 179, 180, 181, 182] (by decide +kernel) (by decide +kernel)
set_option maxRecDepth 20000 in
theorem gX10_sorts_X10_takeLine : GoodIn wsX10_sorts (wsV RX10 319 RX10 yX10_takeLine wsX10_takeLine) := goodIn_app (goodIn_of _ (by decide +kernel)) ggX10_sorts_X10_takeLine
theorem dX10_sorts_0 : decode cX10_sorts 0 = .ok (.aload_n 0, 1) := by decide +kernel
theorem dX10_sorts_1 : decode cX10_sorts 1 = .ok (.iconst 0, 1) := by decide +kernel
theorem dX10_sorts_2 : decode cX10_sorts 2 = .ok (.putfield 67, 3) := by decide +kernel
theorem dX10_sorts_5 : decode cX10_sorts 5 = .ok (.aload_n 0, 1) := by decide +kernel
theorem dX10_sorts_6 : decode cX10_sorts 6 = .ok (.invokevirtual 303, 3) := by decide +kernel
theorem dX10_sorts_9 : decode cX10_sorts 9 = .ok (.ifCond .ne 10, 3) := by decide +kernel
theorem dX10_sorts_12 : decode cX10_sorts 12 = .ok (.iconst (-1), 1) := by decide +kernel
theorem dX10_sorts_13 : decode cX10_sorts 13 = .ok (.aload_n 0, 1) := by decide +kernel
theorem dX10_sorts_14 : decode cX10_sorts 14 = .ok (.getfield 106, 3) := by decide +kernel
theorem dX10_sorts_17 : decode cX10_sorts 17 = .ok (.isub, 1) := by decide +kernel
theorem dX10_sorts_18 : decode cX10_sorts 18 = .ok (.ireturn, 1) := by decide +kernel
theorem dX10_sorts_19 : decode cX10_sorts 19 = .ok (.aload_n 0, 1) := by decide +kernel
theorem dX10_sorts_20 : decode cX10_sorts 20 = .ok (.invokevirtual 148, 3) := by decide +kernel
theorem dX10_sorts_23 : decode cX10_sorts 23 = .ok (.aload_n 0, 1) := by decide +kernel
theorem dX10_sorts_24 : decode cX10_sorts 24 = .ok (.invokevirtual 288, 3) := by decide +kernel
theorem dX10_sorts_27 : decode cX10_sorts 27 = .ok (.istore_n 2, 1) := by decide +kernel
theorem dX10_sorts_28 : decode cX10_sorts 28 = .ok (.aload_n 0, 1) := by decide +kernel
theorem dX10_sorts_29 : decode cX10_sorts 29 = .ok (.iload_n 1, 1) := by decide +kernel
theorem dX10_sorts_30 : decode cX10_sorts 30 = .ok (.invokevirtual 315, 3) := by decide +kernel
theorem dX10_sorts_33 : decode cX10_sorts 33 = .ok (.aload_n 0, 1) := by decide +kernel
theorem dX10_sorts_34 : decode cX10_sorts 34 = .ok (.invokevirtual 285, 3) := by decide +kernel
theorem dX10_sorts_37 : decode cX10_sorts 37 = .ok (.istore_n 3, 1) := by decide +kernel
theorem dX10_sorts_38 : decode cX10_sorts 38 = .ok (.aload_n 0, 1) := by decide +kernel
theorem dX10_sorts_39 : decode cX10_sorts 39 = .ok (.iconst 0, 1) := by decide +kernel
theorem dX10_sorts_40 : decode cX10_sorts 40 = .ok (.putfield 71, 3) := by decide +kernel
theorem dX10_sorts_43 : decode cX10_sorts 43 = .ok (.aload_n 0, 1) := by decide +kernel
theorem dX10_sorts_44 : decode cX10_sorts 44 = .ok (.iload_n 2, 1) := by decide +kernel
theorem dX10_sorts_45 : decode cX10_sorts 45 = .ok (.i2l, 1) := by decide +kernel
theorem dX10_sorts_46 : decode cX10_sorts 46 = .ok (.invokevirtual 237, 3) := by decide +kernel
theorem dX10_sorts_49 : decode cX10_sorts 49 = .ok (.aload_n 0, 1) := by decide +kernel
theorem dX10_sorts_50 : decode cX10_sorts 50 = .ok (.iload_n 3, 1) := by decide +kernel
theorem dX10_sorts_51 : decode cX10_sorts 51 = .ok (.i2l, 1) := by decide +kernel
theorem dX10_sorts_52 : decode cX10_sorts 52 = .ok (.invokevirtual 237, 3) := by decide +kernel
theorem dX10_sorts_55 : decode cX10_sorts 55 = .ok (.aload_n 0, 1) := by decide +kernel
theorem dX10_sorts_56 : decode cX10_sorts 56 = .ok (.invokevirtual 319, 3) := by decide +kernel
theorem dX10_sorts_59 : decode cX10_sorts 59 = .ok (.ireturn, 1) := by decide +kernel
set_option maxRecDepth 20000 in
theorem ggX10_fewest_X10_layRanks : GoodIn wsX10_fewest wsX10_layRanks := goodIn_r _ [10, 3, 4, 5, 11, 12, 13, 14, 9, 15, 16, 17, 18, 19, 20, 21, 22, 23, 24, 25, 26, 27, 28, 29, 30, 31, 32, 33, 34, 35, 36, 37, 38, 39, 40, 41, 42, 43, 44, 45, 46, 47, 48, 49, 50, 51, 52, 53, 54, 55, 56, 57, 58, 59, 60, 61, 62, 63, 64, 65, 66, 67, 73, 74, 75, 76, 77, 78, 79, 80, 81, 82, 83, 84, 85, 86, 87, 88, 89, 90, 91, 92, 93, 94, 95, 96, 97, 98] (by decide +kernel) (by decide +kernel)
set_option maxRecDepth 20000 in
theorem gX10_fewest_X10_layRanks : GoodIn wsX10_fewest (wsV RX10 276 RX10 yX10_layRanks wsX10_layRanks) := goodIn_app (goodIn_of _ (by decide +kernel)) ggX10_fewest_X10_layRanks
set_option maxRecDepth 20000 in
theorem ggX10_fewest_X10_tell : GoodIn wsX10_fewest wsX10_tell := goodIn_r _ [71, 72, 2, 73, 74, 75, 76, 77, 78, 79, 80, 81, 82, 83, 84, 85, 86, 87, 88, 89, 90, 91, 92, 93, 94, 95, 96, 97, 98] (by decide +kernel) (by decide +kernel)
set_option maxRecDepth 20000 in
theorem gX10_fewest_X10_tell : GoodIn wsX10_fewest (wsV RX10 237 RX10 yX10_tell wsX10_tell) := goodIn_app (goodIn_of _ (by decide +kernel)) ggX10_fewest_X10_tell
theorem dX10_fewest_0 : decode cX10_fewest 0 = .ok (.aload_n 0, 1) := by decide +kernel
theorem dX10_fewest_1 : decode cX10_fewest 1 = .ok (.iconst 0, 1) := by decide +kernel
theorem dX10_fewest_2 : decode cX10_fewest 2 = .ok (.putfield 67, 3) := by decide +kernel
theorem dX10_fewest_5 : decode cX10_fewest 5 = .ok (.aload_n 0, 1) := by decide +kernel
theorem dX10_fewest_6 : decode cX10_fewest 6 = .ok (.invokevirtual 276, 3) := by decide +kernel
theorem dX10_fewest_9 : decode cX10_fewest 9 = .ok (.aload_n 0, 1) := by decide +kernel
theorem dX10_fewest_10 : decode cX10_fewest 10 = .ok (.iconst 0, 1) := by decide +kernel
theorem dX10_fewest_11 : decode cX10_fewest 11 = .ok (.putfield 71, 3) := by decide +kernel
theorem dX10_fewest_14 : decode cX10_fewest 14 = .ok (.iconst 0, 1) := by decide +kernel
theorem dX10_fewest_15 : decode cX10_fewest 15 = .ok (.istore_n 1, 1) := by decide +kernel
theorem dX10_fewest_16 : decode cX10_fewest 16 = .ok (.iconst 0, 1) := by decide +kernel
theorem dX10_fewest_17 : decode cX10_fewest 17 = .ok (.istore_n 2, 1) := by decide +kernel
theorem dX10_fewest_18 : decode cX10_fewest 18 = .ok (.iload_n 2, 1) := by decide +kernel
theorem dX10_fewest_19 : decode cX10_fewest 19 = .ok (.aload_n 0, 1) := by decide +kernel
theorem dX10_fewest_20 : decode cX10_fewest 20 = .ok (.getfield 267, 3) := by decide +kernel
theorem dX10_fewest_23 : decode cX10_fewest 23 = .ok (.if_icmp .ge 83, 3) := by decide +kernel
theorem dX10_fewest_26 : decode cX10_fewest 26 = .ok (.iconst (-1), 1) := by decide +kernel
theorem dX10_fewest_27 : decode cX10_fewest 27 = .ok (.istore_n 3, 1) := by decide +kernel
theorem dX10_fewest_28 : decode cX10_fewest 28 = .ok (.iconst 0, 1) := by decide +kernel
theorem dX10_fewest_29 : decode cX10_fewest 29 = .ok (.istore 4, 2) := by decide +kernel
theorem dX10_fewest_31 : decode cX10_fewest 31 = .ok (.iload 4, 2) := by decide +kernel
theorem dX10_fewest_33 : decode cX10_fewest 33 = .ok (.aload_n 0, 1) := by decide +kernel
theorem dX10_fewest_34 : decode cX10_fewest 34 = .ok (.getfield 267, 3) := by decide +kernel
theorem dX10_fewest_37 : decode cX10_fewest 37 = .ok (.if_icmp .ge 51, 3) := by decide +kernel
theorem dX10_fewest_40 : decode cX10_fewest 40 = .ok (.aload_n 0, 1) := by decide +kernel
theorem dX10_fewest_41 : decode cX10_fewest 41 = .ok (.getfield 32, 3) := by decide +kernel
theorem dX10_fewest_44 : decode cX10_fewest 44 = .ok (.iload 4, 2) := by decide +kernel
theorem dX10_fewest_46 : decode cX10_fewest 46 = .ok (.iaload, 1) := by decide +kernel
theorem dX10_fewest_47 : decode cX10_fewest 47 = .ok (.istore 5, 2) := by decide +kernel
theorem dX10_fewest_49 : decode cX10_fewest 49 = .ok (.iload_n 1, 1) := by decide +kernel
theorem dX10_fewest_50 : decode cX10_fewest 50 = .ok (.iload 5, 2) := by decide +kernel
theorem dX10_fewest_52 : decode cX10_fewest 52 = .ok (.ishr, 1) := by decide +kernel
theorem dX10_fewest_53 : decode cX10_fewest 53 = .ok (.iconst 1, 1) := by decide +kernel
theorem dX10_fewest_54 : decode cX10_fewest 54 = .ok (.iand, 1) := by decide +kernel
theorem dX10_fewest_55 : decode cX10_fewest 55 = .ok (.ifCond .ne 27, 3) := by decide +kernel
theorem dX10_fewest_58 : decode cX10_fewest 58 = .ok (.iload_n 3, 1) := by decide +kernel
theorem dX10_fewest_59 : decode cX10_fewest 59 = .ok (.iconst (-1), 1) := by decide +kernel
theorem dX10_fewest_60 : decode cX10_fewest 60 = .ok (.if_icmp .eq 19, 3) := by decide +kernel
theorem dX10_fewest_63 : decode cX10_fewest 63 = .ok (.aload_n 0, 1) := by decide +kernel
theorem dX10_fewest_64 : decode cX10_fewest 64 = .ok (.getfield 29, 3) := by decide +kernel
theorem dX10_fewest_67 : decode cX10_fewest 67 = .ok (.iload 5, 2) := by decide +kernel
theorem dX10_fewest_69 : decode cX10_fewest 69 = .ok (.iaload, 1) := by decide +kernel
theorem dX10_fewest_70 : decode cX10_fewest 70 = .ok (.aload_n 0, 1) := by decide +kernel
theorem dX10_fewest_71 : decode cX10_fewest 71 = .ok (.getfield 29, 3) := by decide +kernel
theorem dX10_fewest_74 : decode cX10_fewest 74 = .ok (.iload_n 3, 1) := by decide +kernel
theorem dX10_fewest_75 : decode cX10_fewest 75 = .ok (.iaload, 1) := by decide +kernel
theorem dX10_fewest_76 : decode cX10_fewest 76 = .ok (.if_icmp .ge 6, 3) := by decide +kernel
theorem dX10_fewest_79 : decode cX10_fewest 79 = .ok (.iload 5, 2) := by decide +kernel
theorem dX10_fewest_81 : decode cX10_fewest 81 = .ok (.istore_n 3, 1) := by decide +kernel
theorem dX10_fewest_82 : decode cX10_fewest 82 = .ok (.iinc 4 1, 3) := by decide +kernel
theorem dX10_fewest_85 : decode cX10_fewest 85 = .ok (.goto (-54), 3) := by decide +kernel
theorem dX10_fewest_88 : decode cX10_fewest 88 = .ok (.iload_n 1, 1) := by decide +kernel
theorem dX10_fewest_89 : decode cX10_fewest 89 = .ok (.iconst 1, 1) := by decide +kernel
theorem dX10_fewest_90 : decode cX10_fewest 90 = .ok (.iload_n 3, 1) := by decide +kernel
theorem dX10_fewest_91 : decode cX10_fewest 91 = .ok (.ishl, 1) := by decide +kernel
theorem dX10_fewest_92 : decode cX10_fewest 92 = .ok (.ior, 1) := by decide +kernel
theorem dX10_fewest_93 : decode cX10_fewest 93 = .ok (.istore_n 1, 1) := by decide +kernel
theorem dX10_fewest_94 : decode cX10_fewest 94 = .ok (.aload_n 0, 1) := by decide +kernel
theorem dX10_fewest_95 : decode cX10_fewest 95 = .ok (.iload_n 3, 1) := by decide +kernel
theorem dX10_fewest_96 : decode cX10_fewest 96 = .ok (.i2l, 1) := by decide +kernel
theorem dX10_fewest_97 : decode cX10_fewest 97 = .ok (.invokevirtual 237, 3) := by decide +kernel
theorem dX10_fewest_100 : decode cX10_fewest 100 = .ok (.iinc 2 1, 3) := by decide +kernel
theorem dX10_fewest_103 : decode cX10_fewest 103 = .ok (.goto (-85), 3) := by decide +kernel
theorem dX10_fewest_106 : decode cX10_fewest 106 = .ok (.aload_n 0, 1) := by decide +kernel
theorem dX10_fewest_107 : decode cX10_fewest 107 = .ok (.getfield 267, 3) := by decide +kernel
theorem dX10_fewest_110 : decode cX10_fewest 110 = .ok (.ireturn, 1) := by decide +kernel
set_option maxRecDepth 20000 in
theorem ggX10_best_X10_layRanks : GoodIn wsX10_best wsX10_layRanks := goodIn_r _ [11, 2, 12, 13, 14, 15, 16, 17, 10, 18, 19, 20, 21, 22, 23, 24, 25, 26, 27, 28, 29, 30, 31, 32, 33, 34, 35, 36, 37, 38, 39, 40, 41, 42, 43, 44, 45, 46, 47, 48, 49, 50, 51, 52, 53, 54, 55, 56, 57, 58, 59, 60, 61, 62, 63, 64, 65, 66, 67, 68, 69, 70, 97, 98, 99, 100, 101, 102, 103, 104, 105, 106, 107, 108, 109, 110, 111, 112, 113, 114, 115, 116, 117, 118, 119, 120, 121, 122] (by decide +kernel) (by decide +kernel)
set_option maxRecDepth 20000 in
theorem gX10_best_X10_layRanks : GoodIn wsX10_best (wsV RX10 276 RX10 yX10_layRanks wsX10_layRanks) := goodIn_app (goodIn_of _ (by decide +kernel)) ggX10_best_X10_layRanks
set_option maxRecDepth 20000 in
theorem ggX10_best_X10_in : GoodIn wsX10_best wsX10_in := goodIn_r _ [30] (by decide +kernel) (by decide +kernel)
set_option maxRecDepth 20000 in
theorem gX10_best_X10_in : GoodIn wsX10_best (va_wsS RX10 78 yX10_in wsX10_in) := goodIn_app (goodIn_of _ (by decide +kernel)) ggX10_best_X10_in
set_option maxRecDepth 20000 in
theorem ggX10_best_X10_layOrder : GoodIn wsX10_best wsX10_layOrder := goodIn_r _ [74, 2, 75, 5, 12, 97, 98, 99, 100, 101, 102, 103, 104, 105, 106, 107, 108, 109, 110, 111, 112, 113, 114, 115, 116, 117, 118, 119, 120, 121, 122] (by decide +kernel) (by decide +kernel)
set_option maxRecDepth 20000 in
theorem gX10_best_X10_layOrder : GoodIn wsX10_best (wsV RX10 322 RX10 yX10_layOrder wsX10_layOrder) := goodIn_app (goodIn_of _ (by decide +kernel)) ggX10_best_X10_layOrder
set_option maxRecDepth 20000 in
theorem ggX10_best_X10_rows : GoodIn wsX10_best wsX10_rows := goodIn_r _ [38, 19, 97, 98, 99, 100, 101, 102, 103, 104, 105, 106, 107, 108, 109, 110, 111, 112, 113, 114, 115, 116, 117, 118, 119, 120, 121, 122] (by decide +kernel) (by decide +kernel)
set_option maxRecDepth 20000 in
theorem gX10_best_X10_rows : GoodIn wsX10_best (wsV RX10 82 RX10 yX10_rows wsX10_rows) := goodIn_app (goodIn_of _ (by decide +kernel)) ggX10_best_X10_rows
set_option maxRecDepth 20000 in
theorem ggX10_best_X10_sortLine : GoodIn wsX10_best wsX10_sortLine := goodIn_r _ [79, 3, 35, 36, 37, 10, 38, 19, 80, 81, 82, 83, 75, 14, 5, 97, 98, 99, 100, 101, 102, 103, 104, 105, 106, 107, 108, 109, 110, 111, 112, 113, 114, 115, 116, 117, 118, 119, 120, 121, 122] (by decide +kernel) (by decide +kernel)
set_option maxRecDepth 20000 in
theorem gX10_best_X10_sortLine : GoodIn wsX10_best (wsV RX10 315 RX10 yX10_sortLine wsX10_sortLine) := goodIn_app (goodIn_of _ (by decide +kernel)) ggX10_best_X10_sortLine
set_option maxRecDepth 20000 in
theorem ggX10_best_X10_runsOfLine : GoodIn wsX10_best wsX10_runsOfLine := goodIn_r _ [87, 2, 12, 88, 89, 90, 10, 91, 14, 3, 35, 36, 37, 38, 19, 97, 98, 99, 100, 101, 102, 103, 104, 105, 106, 107, 108, 109, 110, 111, 112, 113, 114, 115, 116, 117, 118, 119, 120, 121, 122] (by decide +kernel) (by decide +kernel)
set_option maxRecDepth 20000 in
theorem gX10_best_X10_runsOfLine : GoodIn wsX10_best (wsV RX10 285 RX10 yX10_runsOfLine wsX10_runsOfLine) := goodIn_app (goodIn_of _ (by decide +kernel)) ggX10_best_X10_runsOfLine
set_option maxRecDepth 20000 in
theorem ggX10_best_X10_tell : GoodIn wsX10_best wsX10_tell := goodIn_r _ [95, 96, 6, 97, 98, 99, 100, 101, 102, 103, 104, 105, 106, 107, 108, 109, 110, 111, 112, 113, 114, 115, 116, 117, 118, 119, 120, 121, 122] (by decide +kernel) (by decide +kernel)
set_option maxRecDepth 20000 in
theorem gX10_best_X10_tell : GoodIn wsX10_best (wsV RX10 237 RX10 yX10_tell wsX10_tell) := goodIn_app (goodIn_of _ (by decide +kernel)) ggX10_best_X10_tell
theorem dX10_best_0 : decode cX10_best 0 = .ok (.aload_n 0, 1) := by decide +kernel
theorem dX10_best_1 : decode cX10_best 1 = .ok (.iconst 0, 1) := by decide +kernel
theorem dX10_best_2 : decode cX10_best 2 = .ok (.putfield 67, 3) := by decide +kernel
theorem dX10_best_5 : decode cX10_best 5 = .ok (.aload_n 0, 1) := by decide +kernel
theorem dX10_best_6 : decode cX10_best 6 = .ok (.invokevirtual 276, 3) := by decide +kernel
theorem dX10_best_9 : decode cX10_best 9 = .ok (.aload_n 0, 1) := by decide +kernel
theorem dX10_best_10 : decode cX10_best 10 = .ok (.getfield 267, 3) := by decide +kernel
theorem dX10_best_13 : decode cX10_best 13 = .ok (.iconst 1, 1) := by decide +kernel
theorem dX10_best_14 : decode cX10_best 14 = .ok (.iconst 5, 1) := by decide +kernel
theorem dX10_best_15 : decode cX10_best 15 = .ok (.invokestatic 78, 3) := by decide +kernel
theorem dX10_best_18 : decode cX10_best 18 = .ok (.ifCond .ne 6, 3) := by decide +kernel
theorem dX10_best_21 : decode cX10_best 21 = .ok (.bipush (-2), 2) := by decide +kernel
theorem dX10_best_23 : decode cX10_best 23 = .ok (.ireturn, 1) := by decide +kernel
theorem dX10_best_24 : decode cX10_best 24 = .ok (.iconst (-1), 1) := by decide +kernel
theorem dX10_best_25 : decode cX10_best 25 = .ok (.istore_n 2, 1) := by decide +kernel
theorem dX10_best_26 : decode cX10_best 26 = .ok (.iconst 1, 1) := by decide +kernel
theorem dX10_best_27 : decode cX10_best 27 = .ok (.istore_n 3, 1) := by decide +kernel
theorem dX10_best_28 : decode cX10_best 28 = .ok (.iconst 0, 1) := by decide +kernel
theorem dX10_best_29 : decode cX10_best 29 = .ok (.istore 4, 2) := by decide +kernel
theorem dX10_best_31 : decode cX10_best 31 = .ok (.iload 4, 2) := by decide +kernel
theorem dX10_best_33 : decode cX10_best 33 = .ok (.aload_n 0, 1) := by decide +kernel
theorem dX10_best_34 : decode cX10_best 34 = .ok (.getfield 267, 3) := by decide +kernel
theorem dX10_best_37 : decode cX10_best 37 = .ok (.if_icmp .ge 16, 3) := by decide +kernel
theorem dX10_best_40 : decode cX10_best 40 = .ok (.iload_n 3, 1) := by decide +kernel
theorem dX10_best_41 : decode cX10_best 41 = .ok (.aload_n 0, 1) := by decide +kernel
theorem dX10_best_42 : decode cX10_best 42 = .ok (.getfield 267, 3) := by decide +kernel
theorem dX10_best_45 : decode cX10_best 45 = .ok (.imul, 1) := by decide +kernel
theorem dX10_best_46 : decode cX10_best 46 = .ok (.istore_n 3, 1) := by decide +kernel
theorem dX10_best_47 : decode cX10_best 47 = .ok (.iinc 4 1, 3) := by decide +kernel
theorem dX10_best_50 : decode cX10_best 50 = .ok (.goto (-19), 3) := by decide +kernel
theorem dX10_best_53 : decode cX10_best 53 = .ok (.iconst 0, 1) := by decide +kernel
theorem dX10_best_54 : decode cX10_best 54 = .ok (.istore 4, 2) := by decide +kernel
theorem dX10_best_56 : decode cX10_best 56 = .ok (.iload 4, 2) := by decide +kernel
theorem dX10_best_58 : decode cX10_best 58 = .ok (.iload_n 3, 1) := by decide +kernel
theorem dX10_best_59 : decode cX10_best 59 = .ok (.if_icmp .ge 108, 3) := by decide +kernel
theorem dX10_best_62 : decode cX10_best 62 = .ok (.aload_n 0, 1) := by decide +kernel
theorem dX10_best_63 : decode cX10_best 63 = .ok (.iload 4, 2) := by decide +kernel
theorem dX10_best_65 : decode cX10_best 65 = .ok (.invokevirtual 322, 3) := by decide +kernel
theorem dX10_best_68 : decode cX10_best 68 = .ok (.ifCond .ne 6, 3) := by decide +kernel
theorem dX10_best_71 : decode cX10_best 71 = .ok (.goto 90, 3) := by decide +kernel
theorem dX10_best_74 : decode cX10_best 74 = .ok (.iconst 0, 1) := by decide +kernel
theorem dX10_best_75 : decode cX10_best 75 = .ok (.istore 5, 2) := by decide +kernel
theorem dX10_best_77 : decode cX10_best 77 = .ok (.iload 5, 2) := by decide +kernel
theorem dX10_best_79 : decode cX10_best 79 = .ok (.aload_n 0, 1) := by decide +kernel
theorem dX10_best_80 : decode cX10_best 80 = .ok (.invokevirtual 82, 3) := by decide +kernel
theorem dX10_best_83 : decode cX10_best 83 = .ok (.if_icmp .ge 18, 3) := by decide +kernel
theorem dX10_best_86 : decode cX10_best 86 = .ok (.aload_n 0, 1) := by decide +kernel
theorem dX10_best_87 : decode cX10_best 87 = .ok (.getfield 35, 3) := by decide +kernel
theorem dX10_best_90 : decode cX10_best 90 = .ok (.iload 5, 2) := by decide +kernel
theorem dX10_best_92 : decode cX10_best 92 = .ok (.iload 5, 2) := by decide +kernel
theorem dX10_best_94 : decode cX10_best 94 = .ok (.iastore, 1) := by decide +kernel
theorem dX10_best_95 : decode cX10_best 95 = .ok (.iinc 5 1, 3) := by decide +kernel
theorem dX10_best_98 : decode cX10_best 98 = .ok (.goto (-21), 3) := by decide +kernel
theorem dX10_best_101 : decode cX10_best 101 = .ok (.aload_n 0, 1) := by decide +kernel
theorem dX10_best_102 : decode cX10_best 102 = .ok (.iload_n 1, 1) := by decide +kernel
theorem dX10_best_103 : decode cX10_best 103 = .ok (.invokevirtual 315, 3) := by decide +kernel
theorem dX10_best_106 : decode cX10_best 106 = .ok (.aload_n 0, 1) := by decide +kernel
theorem dX10_best_107 : decode cX10_best 107 = .ok (.invokevirtual 285, 3) := by decide +kernel
theorem dX10_best_110 : decode cX10_best 110 = .ok (.istore 5, 2) := by decide +kernel
theorem dX10_best_112 : decode cX10_best 112 = .ok (.iload_n 2, 1) := by decide +kernel
theorem dX10_best_113 : decode cX10_best 113 = .ok (.iconst (-1), 1) := by decide +kernel
theorem dX10_best_114 : decode cX10_best 114 = .ok (.if_icmp .eq 12, 3) := by decide +kernel
theorem dX10_best_117 : decode cX10_best 117 = .ok (.iload 5, 2) := by decide +kernel
theorem dX10_best_119 : decode cX10_best 119 = .ok (.iload_n 2, 1) := by decide +kernel
theorem dX10_best_120 : decode cX10_best 120 = .ok (.if_icmp .lt 6, 3) := by decide +kernel
theorem dX10_best_123 : decode cX10_best 123 = .ok (.goto 38, 3) := by decide +kernel
theorem dX10_best_126 : decode cX10_best 126 = .ok (.iload 5, 2) := by decide +kernel
theorem dX10_best_128 : decode cX10_best 128 = .ok (.istore_n 2, 1) := by decide +kernel
theorem dX10_best_129 : decode cX10_best 129 = .ok (.iconst 0, 1) := by decide +kernel
theorem dX10_best_130 : decode cX10_best 130 = .ok (.istore 6, 2) := by decide +kernel
theorem dX10_best_132 : decode cX10_best 132 = .ok (.iload 6, 2) := by decide +kernel
theorem dX10_best_134 : decode cX10_best 134 = .ok (.aload_n 0, 1) := by decide +kernel
theorem dX10_best_135 : decode cX10_best 135 = .ok (.getfield 267, 3) := by decide +kernel
theorem dX10_best_138 : decode cX10_best 138 = .ok (.if_icmp .ge 23, 3) := by decide +kernel
theorem dX10_best_141 : decode cX10_best 141 = .ok (.aload_n 0, 1) := by decide +kernel
theorem dX10_best_142 : decode cX10_best 142 = .ok (.getfield 44, 3) := by decide +kernel
theorem dX10_best_145 : decode cX10_best 145 = .ok (.iload 6, 2) := by decide +kernel
theorem dX10_best_147 : decode cX10_best 147 = .ok (.aload_n 0, 1) := by decide +kernel
theorem dX10_best_148 : decode cX10_best 148 = .ok (.getfield 38, 3) := by decide +kernel
theorem dX10_best_151 : decode cX10_best 151 = .ok (.iload 6, 2) := by decide +kernel
theorem dX10_best_153 : decode cX10_best 153 = .ok (.iaload, 1) := by decide +kernel
theorem dX10_best_154 : decode cX10_best 154 = .ok (.iastore, 1) := by decide +kernel
theorem dX10_best_155 : decode cX10_best 155 = .ok (.iinc 6 1, 3) := by decide +kernel
theorem dX10_best_158 : decode cX10_best 158 = .ok (.goto (-26), 3) := by decide +kernel
theorem dX10_best_161 : decode cX10_best 161 = .ok (.iinc 4 1, 3) := by decide +kernel
theorem dX10_best_164 : decode cX10_best 164 = .ok (.goto (-108), 3) := by decide +kernel
theorem dX10_best_167 : decode cX10_best 167 = .ok (.aload_n 0, 1) := by decide +kernel
theorem dX10_best_168 : decode cX10_best 168 = .ok (.iconst 0, 1) := by decide +kernel
theorem dX10_best_169 : decode cX10_best 169 = .ok (.putfield 71, 3) := by decide +kernel
theorem dX10_best_172 : decode cX10_best 172 = .ok (.iconst 0, 1) := by decide +kernel
theorem dX10_best_173 : decode cX10_best 173 = .ok (.istore 4, 2) := by decide +kernel
theorem dX10_best_175 : decode cX10_best 175 = .ok (.iload 4, 2) := by decide +kernel
theorem dX10_best_177 : decode cX10_best 177 = .ok (.aload_n 0, 1) := by decide +kernel
theorem dX10_best_178 : decode cX10_best 178 = .ok (.getfield 267, 3) := by decide +kernel
theorem dX10_best_181 : decode cX10_best 181 = .ok (.if_icmp .ge 21, 3) := by decide +kernel
theorem dX10_best_184 : decode cX10_best 184 = .ok (.aload_n 0, 1) := by decide +kernel
theorem dX10_best_185 : decode cX10_best 185 = .ok (.aload_n 0, 1) := by decide +kernel
theorem dX10_best_186 : decode cX10_best 186 = .ok (.getfield 44, 3) := by decide +kernel
theorem dX10_best_189 : decode cX10_best 189 = .ok (.iload 4, 2) := by decide +kernel
theorem dX10_best_191 : decode cX10_best 191 = .ok (.iaload, 1) := by decide +kernel
theorem dX10_best_192 : decode cX10_best 192 = .ok (.i2l, 1) := by decide +kernel
theorem dX10_best_193 : decode cX10_best 193 = .ok (.invokevirtual 237, 3) := by decide +kernel
theorem dX10_best_196 : decode cX10_best 196 = .ok (.iinc 4 1, 3) := by decide +kernel
theorem dX10_best_199 : decode cX10_best 199 = .ok (.goto (-24), 3) := by decide +kernel
theorem dX10_best_202 : decode cX10_best 202 = .ok (.iload_n 2, 1) := by decide +kernel
theorem dX10_best_203 : decode cX10_best 203 = .ok (.ireturn, 1) := by decide +kernel
theorem dX10_layOrder_0 : decode cX10_layOrder 0 = .ok (.aload_n 0, 1) := by decide +kernel
theorem dX10_layOrder_1 : decode cX10_layOrder 1 = .ok (.aload_n 0, 1) := by decide +kernel
theorem dX10_layOrder_2 : decode cX10_layOrder 2 = .ok (.getfield 267, 3) := by decide +kernel
theorem dX10_layOrder_5 : decode cX10_layOrder 5 = .ok (.putfield 297, 3) := by decide +kernel
theorem dX10_layOrder_8 : decode cX10_layOrder 8 = .ok (.iload_n 1, 1) := by decide +kernel
theorem dX10_layOrder_9 : decode cX10_layOrder 9 = .ok (.istore_n 2, 1) := by decide +kernel
theorem dX10_layOrder_10 : decode cX10_layOrder 10 = .ok (.iconst 0, 1) := by decide +kernel
theorem dX10_layOrder_11 : decode cX10_layOrder 11 = .ok (.istore_n 3, 1) := by decide +kernel
theorem dX10_layOrder_12 : decode cX10_layOrder 12 = .ok (.aload_n 0, 1) := by decide +kernel
theorem dX10_layOrder_13 : decode cX10_layOrder 13 = .ok (.getfield 267, 3) := by decide +kernel
theorem dX10_layOrder_16 : decode cX10_layOrder 16 = .ok (.iconst 1, 1) := by decide +kernel
theorem dX10_layOrder_17 : decode cX10_layOrder 17 = .ok (.isub, 1) := by decide +kernel
theorem dX10_layOrder_18 : decode cX10_layOrder 18 = .ok (.istore 4, 2) := by decide +kernel
theorem dX10_layOrder_20 : decode cX10_layOrder 20 = .ok (.iload 4, 2) := by decide +kernel
theorem dX10_layOrder_22 : decode cX10_layOrder 22 = .ok (.ifCond .lt 45, 3) := by decide +kernel
theorem dX10_layOrder_25 : decode cX10_layOrder 25 = .ok (.aload_n 0, 1) := by decide +kernel
theorem dX10_layOrder_26 : decode cX10_layOrder 26 = .ok (.getfield 38, 3) := by decide +kernel
theorem dX10_layOrder_29 : decode cX10_layOrder 29 = .ok (.iload 4, 2) := by decide +kernel
theorem dX10_layOrder_31 : decode cX10_layOrder 31 = .ok (.aload_n 0, 1) := by decide +kernel
theorem dX10_layOrder_32 : decode cX10_layOrder 32 = .ok (.getfield 32, 3) := by decide +kernel
theorem dX10_layOrder_35 : decode cX10_layOrder 35 = .ok (.iload_n 2, 1) := by decide +kernel
theorem dX10_layOrder_36 : decode cX10_layOrder 36 = .ok (.aload_n 0, 1) := by decide +kernel
theorem dX10_layOrder_37 : decode cX10_layOrder 37 = .ok (.getfield 267, 3) := by decide +kernel
theorem dX10_layOrder_40 : decode cX10_layOrder 40 = .ok (.irem, 1) := by decide +kernel
theorem dX10_layOrder_41 : decode cX10_layOrder 41 = .ok (.iaload, 1) := by decide +kernel
theorem dX10_layOrder_42 : decode cX10_layOrder 42 = .ok (.iastore, 1) := by decide +kernel
theorem dX10_layOrder_43 : decode cX10_layOrder 43 = .ok (.iload_n 3, 1) := by decide +kernel
theorem dX10_layOrder_44 : decode cX10_layOrder 44 = .ok (.iconst 1, 1) := by decide +kernel
theorem dX10_layOrder_45 : decode cX10_layOrder 45 = .ok (.iload_n 2, 1) := by decide +kernel
theorem dX10_layOrder_46 : decode cX10_layOrder 46 = .ok (.aload_n 0, 1) := by decide +kernel
theorem dX10_layOrder_47 : decode cX10_layOrder 47 = .ok (.getfield 267, 3) := by decide +kernel
theorem dX10_layOrder_50 : decode cX10_layOrder 50 = .ok (.irem, 1) := by decide +kernel
theorem dX10_layOrder_51 : decode cX10_layOrder 51 = .ok (.ishl, 1) := by decide +kernel
theorem dX10_layOrder_52 : decode cX10_layOrder 52 = .ok (.ior, 1) := by decide +kernel
theorem dX10_layOrder_53 : decode cX10_layOrder 53 = .ok (.istore_n 3, 1) := by decide +kernel
theorem dX10_layOrder_54 : decode cX10_layOrder 54 = .ok (.iload_n 2, 1) := by decide +kernel
theorem dX10_layOrder_55 : decode cX10_layOrder 55 = .ok (.aload_n 0, 1) := by decide +kernel
theorem dX10_layOrder_56 : decode cX10_layOrder 56 = .ok (.getfield 267, 3) := by decide +kernel
theorem dX10_layOrder_59 : decode cX10_layOrder 59 = .ok (.idiv, 1) := by decide +kernel
theorem dX10_layOrder_60 : decode cX10_layOrder 60 = .ok (.istore_n 2, 1) := by decide +kernel
theorem dX10_layOrder_61 : decode cX10_layOrder 61 = .ok (.iinc 4 (-1), 3) := by decide +kernel
theorem dX10_layOrder_64 : decode cX10_layOrder 64 = .ok (.goto (-44), 3) := by decide +kernel
theorem dX10_layOrder_67 : decode cX10_layOrder 67 = .ok (.iload_n 3, 1) := by decide +kernel
theorem dX10_layOrder_68 : decode cX10_layOrder 68 = .ok (.iconst 1, 1) := by decide +kernel
theorem dX10_layOrder_69 : decode cX10_layOrder 69 = .ok (.aload_n 0, 1) := by decide +kernel
theorem dX10_layOrder_70 : decode cX10_layOrder 70 = .ok (.getfield 267, 3) := by decide +kernel
theorem dX10_layOrder_73 : decode cX10_layOrder 73 = .ok (.ishl, 1) := by decide +kernel
theorem dX10_layOrder_74 : decode cX10_layOrder 74 = .ok (.iconst 1, 1) := by decide +kernel
theorem dX10_layOrder_75 : decode cX10_layOrder 75 = .ok (.isub, 1) := by decide +kernel
theorem dX10_layOrder_76 : decode cX10_layOrder 76 = .ok (.if_icmp .ne 7, 3) := by decide +kernel
theorem dX10_layOrder_79 : decode cX10_layOrder 79 = .ok (.iconst 1, 1) := by decide +kernel
theorem dX10_layOrder_80 : decode cX10_layOrder 80 = .ok (.goto 4, 3) := by decide +kernel
theorem dX10_layOrder_83 : decode cX10_layOrder 83 = .ok (.iconst 0, 1) := by decide +kernel
theorem dX10_layOrder_84 : decode cX10_layOrder 84 = .ok (.ireturn, 1) := by decide +kernel
set_option maxRecDepth 20000 in
theorem ggX10_tour_X10_runsOfLine : GoodIn wsX10_tour wsX10_runsOfLine := goodIn_r _ [7, 8, 9, 10, 11, 12, 6, 13, 14, 2, 15, 16, 17, 18, 19, 24, 25, 26, 27, 28, 29, 30, 31, 32, 33, 34, 35, 36, 37, 38, 39, 40, 41, 42, 43, 44, 45, 46, 47, 48, 49] (by decide +kernel) (by decide +kernel)
set_option maxRecDepth 20000 in
theorem gX10_tour_X10_runsOfLine : GoodIn wsX10_tour (wsV RX10 285 RX10 yX10_runsOfLine wsX10_runsOfLine) := goodIn_app (goodIn_of _ (by decide +kernel)) ggX10_tour_X10_runsOfLine
set_option maxRecDepth 20000 in
theorem ggX10_tour_X10_unlikeOf : GoodIn wsX10_tour wsX10_unlikeOf := goodIn_r _ [23, 8, 14, 9, 24, 25, 26, 27, 28, 29, 30, 31, 32, 33, 34, 35, 36, 37, 38, 39, 40, 41, 42, 43, 44, 45, 46, 47, 48, 49] (by decide +kernel) (by decide +kernel)
set_option maxRecDepth 20000 in
theorem gX10_tour_X10_unlikeOf : GoodIn wsX10_tour (wsV RX10 294 RX10 yX10_unlikeOf wsX10_unlikeOf) := goodIn_app (goodIn_of _ (by decide +kernel)) ggX10_tour_X10_unlikeOf
theorem dX10_tour_0 : decode cX10_tour 0 = .ok (.aload_n 0, 1) := by decide +kernel
theorem dX10_tour_1 : decode cX10_tour 1 = .ok (.invokevirtual 285, 3) := by decide +kernel
theorem dX10_tour_4 : decode cX10_tour 4 = .ok (.istore_n 3, 1) := by decide +kernel
theorem dX10_tour_5 : decode cX10_tour 5 = .ok (.iload_n 1, 1) := by decide +kernel
theorem dX10_tour_6 : decode cX10_tour 6 = .ok (.istore 4, 2) := by decide +kernel
theorem dX10_tour_8 : decode cX10_tour 8 = .ok (.iload 4, 2) := by decide +kernel
theorem dX10_tour_10 : decode cX10_tour 10 = .ok (.iload_n 2, 1) := by decide +kernel
theorem dX10_tour_11 : decode cX10_tour 11 = .ok (.if_icmp .ge 23, 3) := by decide +kernel
theorem dX10_tour_14 : decode cX10_tour 14 = .ok (.aload_n 0, 1) := by decide +kernel
theorem dX10_tour_15 : decode cX10_tour 15 = .ok (.getfield 47, 3) := by decide +kernel
theorem dX10_tour_18 : decode cX10_tour 18 = .ok (.iload 4, 2) := by decide +kernel
theorem dX10_tour_20 : decode cX10_tour 20 = .ok (.aload_n 0, 1) := by decide +kernel
theorem dX10_tour_21 : decode cX10_tour 21 = .ok (.getfield 35, 3) := by decide +kernel
theorem dX10_tour_24 : decode cX10_tour 24 = .ok (.iload 4, 2) := by decide +kernel
theorem dX10_tour_26 : decode cX10_tour 26 = .ok (.iaload, 1) := by decide +kernel
theorem dX10_tour_27 : decode cX10_tour 27 = .ok (.iastore, 1) := by decide +kernel
theorem dX10_tour_28 : decode cX10_tour 28 = .ok (.iinc 4 1, 3) := by decide +kernel
theorem dX10_tour_31 : decode cX10_tour 31 = .ok (.goto (-23), 3) := by decide +kernel
theorem dX10_tour_34 : decode cX10_tour 34 = .ok (.iload_n 1, 1) := by decide +kernel
theorem dX10_tour_35 : decode cX10_tour 35 = .ok (.iconst 1, 1) := by decide +kernel
theorem dX10_tour_36 : decode cX10_tour 36 = .ok (.iadd, 1) := by decide +kernel
theorem dX10_tour_37 : decode cX10_tour 37 = .ok (.istore 4, 2) := by decide +kernel
theorem dX10_tour_39 : decode cX10_tour 39 = .ok (.iload 4, 2) := by decide +kernel
theorem dX10_tour_41 : decode cX10_tour 41 = .ok (.iload_n 2, 1) := by decide +kernel
theorem dX10_tour_42 : decode cX10_tour 42 = .ok (.if_icmp .ge 129, 3) := by decide +kernel
theorem dX10_tour_45 : decode cX10_tour 45 = .ok (.iload 4, 2) := by decide +kernel
theorem dX10_tour_47 : decode cX10_tour 47 = .ok (.istore 5, 2) := by decide +kernel
theorem dX10_tour_49 : decode cX10_tour 49 = .ok (.iload 4, 2) := by decide +kernel
theorem dX10_tour_51 : decode cX10_tour 51 = .ok (.iconst 1, 1) := by decide +kernel
theorem dX10_tour_52 : decode cX10_tour 52 = .ok (.iadd, 1) := by decide +kernel
theorem dX10_tour_53 : decode cX10_tour 53 = .ok (.istore 6, 2) := by decide +kernel
theorem dX10_tour_55 : decode cX10_tour 55 = .ok (.iload 6, 2) := by decide +kernel
theorem dX10_tour_57 : decode cX10_tour 57 = .ok (.iload_n 2, 1) := by decide +kernel
theorem dX10_tour_58 : decode cX10_tour 58 = .ok (.if_icmp .ge 56, 3) := by decide +kernel
theorem dX10_tour_61 : decode cX10_tour 61 = .ok (.aload_n 0, 1) := by decide +kernel
theorem dX10_tour_62 : decode cX10_tour 62 = .ok (.aload_n 0, 1) := by decide +kernel
theorem dX10_tour_63 : decode cX10_tour 63 = .ok (.getfield 35, 3) := by decide +kernel
theorem dX10_tour_66 : decode cX10_tour 66 = .ok (.iload 6, 2) := by decide +kernel
theorem dX10_tour_68 : decode cX10_tour 68 = .ok (.iaload, 1) := by decide +kernel
theorem dX10_tour_69 : decode cX10_tour 69 = .ok (.aload_n 0, 1) := by decide +kernel
theorem dX10_tour_70 : decode cX10_tour 70 = .ok (.getfield 35, 3) := by decide +kernel
theorem dX10_tour_73 : decode cX10_tour 73 = .ok (.iload 4, 2) := by decide +kernel
theorem dX10_tour_75 : decode cX10_tour 75 = .ok (.iconst 1, 1) := by decide +kernel
theorem dX10_tour_76 : decode cX10_tour 76 = .ok (.isub, 1) := by decide +kernel
theorem dX10_tour_77 : decode cX10_tour 77 = .ok (.iaload, 1) := by decide +kernel
theorem dX10_tour_78 : decode cX10_tour 78 = .ok (.invokevirtual 294, 3) := by decide +kernel
theorem dX10_tour_81 : decode cX10_tour 81 = .ok (.aload_n 0, 1) := by decide +kernel
theorem dX10_tour_82 : decode cX10_tour 82 = .ok (.aload_n 0, 1) := by decide +kernel
theorem dX10_tour_83 : decode cX10_tour 83 = .ok (.getfield 35, 3) := by decide +kernel
theorem dX10_tour_86 : decode cX10_tour 86 = .ok (.iload 5, 2) := by decide +kernel
theorem dX10_tour_88 : decode cX10_tour 88 = .ok (.iaload, 1) := by decide +kernel
theorem dX10_tour_89 : decode cX10_tour 89 = .ok (.aload_n 0, 1) := by decide +kernel
theorem dX10_tour_90 : decode cX10_tour 90 = .ok (.getfield 35, 3) := by decide +kernel
theorem dX10_tour_93 : decode cX10_tour 93 = .ok (.iload 4, 2) := by decide +kernel
theorem dX10_tour_95 : decode cX10_tour 95 = .ok (.iconst 1, 1) := by decide +kernel
theorem dX10_tour_96 : decode cX10_tour 96 = .ok (.isub, 1) := by decide +kernel
theorem dX10_tour_97 : decode cX10_tour 97 = .ok (.iaload, 1) := by decide +kernel
theorem dX10_tour_98 : decode cX10_tour 98 = .ok (.invokevirtual 294, 3) := by decide +kernel
theorem dX10_tour_101 : decode cX10_tour 101 = .ok (.if_icmp .ge 7, 3) := by decide +kernel
theorem dX10_tour_104 : decode cX10_tour 104 = .ok (.iload 6, 2) := by decide +kernel
theorem dX10_tour_106 : decode cX10_tour 106 = .ok (.istore 5, 2) := by decide +kernel
theorem dX10_tour_108 : decode cX10_tour 108 = .ok (.iinc 6 1, 3) := by decide +kernel
theorem dX10_tour_111 : decode cX10_tour 111 = .ok (.goto (-56), 3) := by decide +kernel
theorem dX10_tour_114 : decode cX10_tour 114 = .ok (.aload_n 0, 1) := by decide +kernel
theorem dX10_tour_115 : decode cX10_tour 115 = .ok (.getfield 35, 3) := by decide +kernel
theorem dX10_tour_118 : decode cX10_tour 118 = .ok (.iload 5, 2) := by decide +kernel
theorem dX10_tour_120 : decode cX10_tour 120 = .ok (.iaload, 1) := by decide +kernel
theorem dX10_tour_121 : decode cX10_tour 121 = .ok (.istore 6, 2) := by decide +kernel
theorem dX10_tour_123 : decode cX10_tour 123 = .ok (.iload 5, 2) := by decide +kernel
theorem dX10_tour_125 : decode cX10_tour 125 = .ok (.istore 7, 2) := by decide +kernel
theorem dX10_tour_127 : decode cX10_tour 127 = .ok (.iload 7, 2) := by decide +kernel
theorem dX10_tour_129 : decode cX10_tour 129 = .ok (.iload 4, 2) := by decide +kernel
theorem dX10_tour_131 : decode cX10_tour 131 = .ok (.if_icmp .le 25, 3) := by decide +kernel
theorem dX10_tour_134 : decode cX10_tour 134 = .ok (.aload_n 0, 1) := by decide +kernel
theorem dX10_tour_135 : decode cX10_tour 135 = .ok (.getfield 35, 3) := by decide +kernel
theorem dX10_tour_138 : decode cX10_tour 138 = .ok (.iload 7, 2) := by decide +kernel
theorem dX10_tour_140 : decode cX10_tour 140 = .ok (.aload_n 0, 1) := by decide +kernel
theorem dX10_tour_141 : decode cX10_tour 141 = .ok (.getfield 35, 3) := by decide +kernel
theorem dX10_tour_144 : decode cX10_tour 144 = .ok (.iload 7, 2) := by decide +kernel
theorem dX10_tour_146 : decode cX10_tour 146 = .ok (.iconst 1, 1) := by decide +kernel
theorem dX10_tour_147 : decode cX10_tour 147 = .ok (.isub, 1) := by decide +kernel
theorem dX10_tour_148 : decode cX10_tour 148 = .ok (.iaload, 1) := by decide +kernel
theorem dX10_tour_149 : decode cX10_tour 149 = .ok (.iastore, 1) := by decide +kernel
theorem dX10_tour_150 : decode cX10_tour 150 = .ok (.iinc 7 (-1), 3) := by decide +kernel
theorem dX10_tour_153 : decode cX10_tour 153 = .ok (.goto (-26), 3) := by decide +kernel
theorem dX10_tour_156 : decode cX10_tour 156 = .ok (.aload_n 0, 1) := by decide +kernel
theorem dX10_tour_157 : decode cX10_tour 157 = .ok (.getfield 35, 3) := by decide +kernel
theorem dX10_tour_160 : decode cX10_tour 160 = .ok (.iload 4, 2) := by decide +kernel
theorem dX10_tour_162 : decode cX10_tour 162 = .ok (.iload 6, 2) := by decide +kernel
theorem dX10_tour_164 : decode cX10_tour 164 = .ok (.iastore, 1) := by decide +kernel
theorem dX10_tour_165 : decode cX10_tour 165 = .ok (.iinc 4 1, 3) := by decide +kernel
theorem dX10_tour_168 : decode cX10_tour 168 = .ok (.goto (-129), 3) := by decide +kernel
theorem dX10_tour_171 : decode cX10_tour 171 = .ok (.aload_n 0, 1) := by decide +kernel
theorem dX10_tour_172 : decode cX10_tour 172 = .ok (.invokevirtual 285, 3) := by decide +kernel
theorem dX10_tour_175 : decode cX10_tour 175 = .ok (.iload_n 3, 1) := by decide +kernel
theorem dX10_tour_176 : decode cX10_tour 176 = .ok (.if_icmp .ge 5, 3) := by decide +kernel
theorem dX10_tour_179 : decode cX10_tour 179 = .ok (.iconst 1, 1) := by decide +kernel
theorem dX10_tour_180 : decode cX10_tour 180 = .ok (.ireturn, 1) := by decide +kernel
theorem dX10_tour_181 : decode cX10_tour 181 = .ok (.iload_n 1, 1) := by decide +kernel
theorem dX10_tour_182 : decode cX10_tour 182 = .ok (.istore 4, 2) := by decide +kernel
theorem dX10_tour_184 : decode cX10_tour 184 = .ok (.iload 4, 2) := by decide +kernel
theorem dX10_tour_186 : decode cX10_tour 186 = .ok (.iload_n 2, 1) := by decide +kernel
theorem dX10_tour_187 : decode cX10_tour 187 = .ok (.if_icmp .ge 23, 3) := by decide +kernel
theorem dX10_tour_190 : decode cX10_tour 190 = .ok (.aload_n 0, 1) := by decide +kernel
theorem dX10_tour_191 : decode cX10_tour 191 = .ok (.getfield 35, 3) := by decide +kernel
theorem dX10_tour_194 : decode cX10_tour 194 = .ok (.iload 4, 2) := by decide +kernel
theorem dX10_tour_196 : decode cX10_tour 196 = .ok (.aload_n 0, 1) := by decide +kernel
theorem dX10_tour_197 : decode cX10_tour 197 = .ok (.getfield 47, 3) := by decide +kernel
theorem dX10_tour_200 : decode cX10_tour 200 = .ok (.iload 4, 2) := by decide +kernel
theorem dX10_tour_202 : decode cX10_tour 202 = .ok (.iaload, 1) := by decide +kernel
theorem dX10_tour_203 : decode cX10_tour 203 = .ok (.iastore, 1) := by decide +kernel
theorem dX10_tour_204 : decode cX10_tour 204 = .ok (.iinc 4 1, 3) := by decide +kernel
theorem dX10_tour_207 : decode cX10_tour 207 = .ok (.goto (-23), 3) := by decide +kernel
theorem dX10_tour_210 : decode cX10_tour 210 = .ok (.iconst 0, 1) := by decide +kernel
theorem dX10_tour_211 : decode cX10_tour 211 = .ok (.ireturn, 1) := by decide +kernel
set_option maxRecDepth 20000 in
theorem ggX10_tourAll_X10_rows : GoodIn wsX10_tourAll wsX10_rows := goodIn_r _ [9, 10, 32, 33, 34, 35, 36, 37, 38, 39, 40, 41, 42, 43, 44, 45, 46, 47, 48, 49, 50, 51, 52, 53, 54, 55, 56, 57] (by decide +kernel) (by decide +kernel)
set_option maxRecDepth 20000 in
theorem gX10_tourAll_X10_rows : GoodIn wsX10_tourAll (wsV RX10 82 RX10 yX10_rows wsX10_rows) := goodIn_app (goodIn_of _ (by decide +kernel)) ggX10_tourAll_X10_rows
set_option maxRecDepth 20000 in
theorem ggX10_tourAll_X10_tour : GoodIn wsX10_tourAll wsX10_tour := goodIn_r _ [14, 15, 16, 17, 18, 19, 8, 20, 21, 22, 23, 24, 25, 26, 27, 5, 6, 7, 9, 10, 28, 29, 30, 31, 32, 33, 34, 35, 36, 37, 38, 39, 40, 41, 42, 43, 44, 45, 46, 47, 48, 49, 50, 51, 52, 53, 54, 55, 56, 57] (by decide +kernel) (by decide +kernel)
set_option maxRecDepth 20000 in
theorem gX10_tourAll_X10_tour : GoodIn wsX10_tourAll (wsV RX10 325 RX10 yX10_tour wsX10_tour) := goodIn_app (goodIn_of _ (by decide +kernel)) ggX10_tourAll_X10_tour
theorem dX10_tourAll_0 : decode cX10_tourAll 0 = .ok (.iconst 0, 1) := by decide +kernel
theorem dX10_tourAll_1 : decode cX10_tourAll 1 = .ok (.istore_n 2, 1) := by decide +kernel
theorem dX10_tourAll_2 : decode cX10_tourAll 2 = .ok (.iconst 0, 1) := by decide +kernel
theorem dX10_tourAll_3 : decode cX10_tourAll 3 = .ok (.istore_n 3, 1) := by decide +kernel
theorem dX10_tourAll_4 : decode cX10_tourAll 4 = .ok (.iload_n 3, 1) := by decide +kernel
theorem dX10_tourAll_5 : decode cX10_tourAll 5 = .ok (.aload_n 0, 1) := by decide +kernel
theorem dX10_tourAll_6 : decode cX10_tourAll 6 = .ok (.invokevirtual 82, 3) := by decide +kernel
theorem dX10_tourAll_9 : decode cX10_tourAll 9 = .ok (.if_icmp .ge 36, 3) := by decide +kernel
theorem dX10_tourAll_12 : decode cX10_tourAll 12 = .ok (.iload_n 2, 1) := by decide +kernel
theorem dX10_tourAll_13 : decode cX10_tourAll 13 = .ok (.aload_n 0, 1) := by decide +kernel
theorem dX10_tourAll_14 : decode cX10_tourAll 14 = .ok (.iload_n 3, 1) := by decide +kernel
theorem dX10_tourAll_15 : decode cX10_tourAll 15 = .ok (.aload_n 0, 1) := by decide +kernel
theorem dX10_tourAll_16 : decode cX10_tourAll 16 = .ok (.invokevirtual 82, 3) := by decide +kernel
theorem dX10_tourAll_19 : decode cX10_tourAll 19 = .ok (.iload_n 3, 1) := by decide +kernel
theorem dX10_tourAll_20 : decode cX10_tourAll 20 = .ok (.iload_n 1, 1) := by decide +kernel
theorem dX10_tourAll_21 : decode cX10_tourAll 21 = .ok (.iadd, 1) := by decide +kernel
theorem dX10_tourAll_22 : decode cX10_tourAll 22 = .ok (.invokestatic 306, 3) := by decide +kernel
theorem dX10_tourAll_25 : decode cX10_tourAll 25 = .ok (.invokevirtual 325, 3) := by decide +kernel
theorem dX10_tourAll_28 : decode cX10_tourAll 28 = .ok (.ifCond .eq 7, 3) := by decide +kernel
theorem dX10_tourAll_31 : decode cX10_tourAll 31 = .ok (.iconst 1, 1) := by decide +kernel
theorem dX10_tourAll_32 : decode cX10_tourAll 32 = .ok (.goto 4, 3) := by decide +kernel
theorem dX10_tourAll_35 : decode cX10_tourAll 35 = .ok (.iconst 0, 1) := by decide +kernel
theorem dX10_tourAll_36 : decode cX10_tourAll 36 = .ok (.iadd, 1) := by decide +kernel
theorem dX10_tourAll_37 : decode cX10_tourAll 37 = .ok (.istore_n 2, 1) := by decide +kernel
theorem dX10_tourAll_38 : decode cX10_tourAll 38 = .ok (.iload_n 3, 1) := by decide +kernel
theorem dX10_tourAll_39 : decode cX10_tourAll 39 = .ok (.iload_n 1, 1) := by decide +kernel
theorem dX10_tourAll_40 : decode cX10_tourAll 40 = .ok (.iadd, 1) := by decide +kernel
theorem dX10_tourAll_41 : decode cX10_tourAll 41 = .ok (.istore_n 3, 1) := by decide +kernel
theorem dX10_tourAll_42 : decode cX10_tourAll 42 = .ok (.goto (-38), 3) := by decide +kernel
theorem dX10_tourAll_45 : decode cX10_tourAll 45 = .ok (.iload_n 2, 1) := by decide +kernel
theorem dX10_tourAll_46 : decode cX10_tourAll 46 = .ok (.ireturn, 1) := by decide +kernel
set_option maxRecDepth 20000 in
theorem ggX10_tours_X10_in : GoodIn wsX10_tours wsX10_in := goodIn_r _ [5] (by decide +kernel) (by decide +kernel)
set_option maxRecDepth 20000 in
theorem gX10_tours_X10_in : GoodIn wsX10_tours (va_wsS RX10 78 yX10_in wsX10_in) := goodIn_app (goodIn_of _ (by decide +kernel)) ggX10_tours_X10_in
set_option maxRecDepth 20000 in
theorem ggX10_tours_X10_change : GoodIn wsX10_tours wsX10_change := goodIn_r _ [9, 10, 11, 12, 4, 13, 14, 15, 16, 17, 18, 19, 20, 21, 127, 128, 129, 130, 131, 132, 133, 134, 135, 136, 137, 138, 139, 140, 141, 142, 143, 144, 145, 146, 147, 148, 149, 150, 151, 152] (by decide +kernel) (by decide +kernel)
set_option maxRecDepth 20000 in
theorem gX10_tours_X10_change : GoodIn wsX10_tours (wsV RX10 148 RX10 yX10_change wsX10_change) := goodIn_app (goodIn_of _ (by decide +kernel)) ggX10_tours_X10_change
set_option maxRecDepth 20000 in
theorem ggX10_tours_X10_goTours : GoodIn wsX10_tours wsX10_goTours := goodIn_r _ [25, 26, 27, 28, 29, 4, 30, 31, 32, 33, 34, 35, 15, 36, 37, 38, 39, 40, 41, 42, 43, 44, 45, 46, 47, 48, 49, 50, 51, 52, 53, 54, 55, 2, 3, 5, 56, 57, 58, 59, 60, 61, 62, 63, 64, 65, 66, 67, 68, 69, 70, 71, 72, 73, 74, 75, 76, 77, 78, 79, 80, 81, 82, 83, 84, 85, 86, 87, 88, 89, 90, 91, 92, 93, 94, 95, 96, 97, 98, 99, 100, 101, 102, 103, 104, 105, 106, 107, 108, 109, 110, 111, 112, 113, 114, 115, 116, 117, 118, 119, 120, 121, 122, 123, 124, 125, 126, 127, 128, 129, 130, 131, 132, 133, 134, 135, 136, 137, 138, 139, 140, 141, 142, 143, 144, 145, 146, 147, 148, 149, 150, 151, 152] (by decide +kernel) (by decide +kernel)
set_option maxRecDepth 20000 in
theorem gX10_tours_X10_goTours : GoodIn wsX10_tours (wsV RX10 328 RX10 yX10_goTours wsX10_goTours) := goodIn_app (goodIn_of _ (by decide +kernel)) ggX10_tours_X10_goTours
theorem dX10_tours_0 : decode cX10_tours 0 = .ok (.aload_n 0, 1) := by decide +kernel
theorem dX10_tours_1 : decode cX10_tours 1 = .ok (.iconst 0, 1) := by decide +kernel
theorem dX10_tours_2 : decode cX10_tours 2 = .ok (.putfield 67, 3) := by decide +kernel
theorem dX10_tours_5 : decode cX10_tours 5 = .ok (.iload_n 1, 1) := by decide +kernel
theorem dX10_tours_6 : decode cX10_tours 6 = .ok (.iconst 2, 1) := by decide +kernel
theorem dX10_tours_7 : decode cX10_tours 7 = .ok (.bipush 16, 2) := by decide +kernel
theorem dX10_tours_9 : decode cX10_tours 9 = .ok (.invokestatic 78, 3) := by decide +kernel
theorem dX10_tours_12 : decode cX10_tours 12 = .ok (.ifCond .ne 5, 3) := by decide +kernel
theorem dX10_tours_15 : decode cX10_tours 15 = .ok (.iconst (-1), 1) := by decide +kernel
theorem dX10_tours_16 : decode cX10_tours 16 = .ok (.ireturn, 1) := by decide +kernel
theorem dX10_tours_17 : decode cX10_tours 17 = .ok (.aload_n 0, 1) := by decide +kernel
theorem dX10_tours_18 : decode cX10_tours 18 = .ok (.invokevirtual 148, 3) := by decide +kernel
theorem dX10_tours_21 : decode cX10_tours 21 = .ok (.aload_n 0, 1) := by decide +kernel
theorem dX10_tours_22 : decode cX10_tours 22 = .ok (.iload_n 1, 1) := by decide +kernel
theorem dX10_tours_23 : decode cX10_tours 23 = .ok (.invokevirtual 328, 3) := by decide +kernel
theorem dX10_tours_26 : decode cX10_tours 26 = .ok (.ireturn, 1) := by decide +kernel
set_option maxRecDepth 20000 in
theorem ggX10_goTours_X10_layLine : GoodIn wsX10_goTours wsX10_layLine := goodIn_r _ [6, 7, 8, 9, 10, 5, 11, 12, 13, 14, 15, 16, 17, 18, 19, 20, 21, 22, 23, 24, 25, 26, 27, 28, 29, 30, 31, 32, 33, 34, 35, 36, 37, 38, 39, 40, 41, 42, 43, 44, 45, 46, 47, 48, 49, 50, 51, 52, 53, 54, 55, 56, 57, 58, 59, 60, 61, 62, 63, 64, 65, 66, 67, 68, 69, 70, 71, 107, 108, 109, 110, 111, 112, 113, 114, 115, 116, 117, 118, 119, 120, 121, 122, 123, 124, 125, 126, 127, 128, 129, 130, 131, 132] (by decide +kernel) (by decide +kernel)
set_option maxRecDepth 20000 in
theorem gX10_goTours_X10_layLine : GoodIn wsX10_goTours (wsV RX10 282 RX10 yX10_layLine wsX10_layLine) := goodIn_app (goodIn_of _ (by decide +kernel)) ggX10_goTours_X10_layLine
set_option maxRecDepth 20000 in
theorem ggX10_goTours_X10_tourAll : GoodIn wsX10_goTours wsX10_tourAll := goodIn_r _ [75, 76, 77, 78, 79, 8, 9, 10, 5, 11, 12, 80, 81, 82, 83, 84, 7, 85, 86, 87, 88, 17, 18, 89, 90, 91, 92, 20, 93, 94, 95, 96, 107, 108, 109, 110, 111, 112, 113, 114, 115, 116, 117, 118, 119, 120, 121, 122, 123, 124, 125, 126, 127, 128, 129, 130, 131, 132] (by decide +kernel) (by decide +kernel)
set_option maxRecDepth 20000 in
theorem gX10_goTours_X10_tourAll : GoodIn wsX10_goTours (wsV RX10 331 RX10 yX10_tourAll wsX10_tourAll) := goodIn_app (goodIn_of _ (by decide +kernel)) ggX10_goTours_X10_tourAll
set_option maxRecDepth 20000 in
theorem ggX10_goTours_X10_runsOfLine : GoodIn wsX10_goTours wsX10_runsOfLine := goodIn_r _ [88, 17, 18, 89, 90, 91, 5, 92, 20, 7, 8, 9, 10, 11, 12, 107, 108, 109, 110, 111, 112, 113, 114, 115, 116, 117, 118, 119, 120, 121, 122, 123, 124, 125, 126, 127, 128, 129, 130, 131, 132] (by decide +kernel) (by decide +kernel)
set_option maxRecDepth 20000 in
theorem gX10_goTours_X10_runsOfLine : GoodIn wsX10_goTours (wsV RX10 285 RX10 yX10_runsOfLine wsX10_runsOfLine) := goodIn_app (goodIn_of _ (by decide +kernel)) ggX10_goTours_X10_runsOfLine
set_option maxRecDepth 20000 in
theorem ggX10_goTours_X10_tell : GoodIn wsX10_goTours wsX10_tell := goodIn_r _ [100, 101, 1, 107, 108, 109, 110, 111, 112, 113, 114, 115, 116, 117, 118, 119, 120, 121, 122, 123, 124, 125, 126, 127, 128, 129, 130, 131, 132] (by decide +kernel) (by decide +kernel)
set_option maxRecDepth 20000 in
theorem gX10_goTours_X10_tell : GoodIn wsX10_goTours (wsV RX10 237 RX10 yX10_tell wsX10_tell) := goodIn_app (goodIn_of _ (by decide +kernel)) ggX10_goTours_X10_tell
set_option maxRecDepth 20000 in
theorem ggX10_goTours_X10_takeLine : GoodIn wsX10_goTours wsX10_takeLine := goodIn_r _ [105, 106, 12, 7, 8, 9, 10, 5, 11, 21, 22, 23, 24, 52, 53, 54, 107, 108, 109, 110, 111, 112, 113, 114, 115, 116, 117, 118, 119, 120, 121, 122, 123, 124, 125, 126, 127, 128, 129, 130, 131, 132] (by decide +kernel) (by decide +kernel)
set_option maxRecDepth 20000 in
theorem gX10_goTours_X10_takeLine : GoodIn wsX10_goTours (wsV RX10 319 RX10 yX10_takeLine wsX10_takeLine) := goodIn_app (goodIn_of _ (by decide +kernel)) ggX10_goTours_X10_takeLine
theorem dX10_goTours_0 : decode cX10_goTours 0 = .ok (.aload_n 0, 1) := by decide +kernel
theorem dX10_goTours_1 : decode cX10_goTours 1 = .ok (.invokevirtual 282, 3) := by decide +kernel
theorem dX10_goTours_4 : decode cX10_goTours 4 = .ok (.aload_n 0, 1) := by decide +kernel
theorem dX10_goTours_5 : decode cX10_goTours 5 = .ok (.iload_n 1, 1) := by decide +kernel
theorem dX10_goTours_6 : decode cX10_goTours 6 = .ok (.invokevirtual 331, 3) := by decide +kernel
theorem dX10_goTours_9 : decode cX10_goTours 9 = .ok (.istore_n 2, 1) := by decide +kernel
theorem dX10_goTours_10 : decode cX10_goTours 10 = .ok (.aload_n 0, 1) := by decide +kernel
theorem dX10_goTours_11 : decode cX10_goTours 11 = .ok (.iconst 0, 1) := by decide +kernel
theorem dX10_goTours_12 : decode cX10_goTours 12 = .ok (.putfield 71, 3) := by decide +kernel
theorem dX10_goTours_15 : decode cX10_goTours 15 = .ok (.aload_n 0, 1) := by decide +kernel
theorem dX10_goTours_16 : decode cX10_goTours 16 = .ok (.aload_n 0, 1) := by decide +kernel
theorem dX10_goTours_17 : decode cX10_goTours 17 = .ok (.invokevirtual 285, 3) := by decide +kernel
theorem dX10_goTours_20 : decode cX10_goTours 20 = .ok (.i2l, 1) := by decide +kernel
theorem dX10_goTours_21 : decode cX10_goTours 21 = .ok (.invokevirtual 237, 3) := by decide +kernel
theorem dX10_goTours_24 : decode cX10_goTours 24 = .ok (.aload_n 0, 1) := by decide +kernel
theorem dX10_goTours_25 : decode cX10_goTours 25 = .ok (.invokevirtual 319, 3) := by decide +kernel
theorem dX10_goTours_28 : decode cX10_goTours 28 = .ok (.ifCond .lt 7, 3) := by decide +kernel
theorem dX10_goTours_31 : decode cX10_goTours 31 = .ok (.iload_n 2, 1) := by decide +kernel
theorem dX10_goTours_32 : decode cX10_goTours 32 = .ok (.goto 4, 3) := by decide +kernel
theorem dX10_goTours_35 : decode cX10_goTours 35 = .ok (.iconst 0, 1) := by decide +kernel
theorem dX10_goTours_36 : decode cX10_goTours 36 = .ok (.ireturn, 1) := by decide +kernel
theorem dX10_swapInLine_0 : decode cX10_swapInLine 0 = .ok (.aload_n 0, 1) := by decide +kernel
theorem dX10_swapInLine_1 : decode cX10_swapInLine 1 = .ok (.getfield 35, 3) := by decide +kernel
theorem dX10_swapInLine_4 : decode cX10_swapInLine 4 = .ok (.iload_n 1, 1) := by decide +kernel
theorem dX10_swapInLine_5 : decode cX10_swapInLine 5 = .ok (.iaload, 1) := by decide +kernel
theorem dX10_swapInLine_6 : decode cX10_swapInLine 6 = .ok (.istore_n 3, 1) := by decide +kernel
theorem dX10_swapInLine_7 : decode cX10_swapInLine 7 = .ok (.aload_n 0, 1) := by decide +kernel
theorem dX10_swapInLine_8 : decode cX10_swapInLine 8 = .ok (.getfield 35, 3) := by decide +kernel
theorem dX10_swapInLine_11 : decode cX10_swapInLine 11 = .ok (.iload_n 1, 1) := by decide +kernel
theorem dX10_swapInLine_12 : decode cX10_swapInLine 12 = .ok (.aload_n 0, 1) := by decide +kernel
theorem dX10_swapInLine_13 : decode cX10_swapInLine 13 = .ok (.getfield 35, 3) := by decide +kernel
theorem dX10_swapInLine_16 : decode cX10_swapInLine 16 = .ok (.iload_n 2, 1) := by decide +kernel
theorem dX10_swapInLine_17 : decode cX10_swapInLine 17 = .ok (.iaload, 1) := by decide +kernel
theorem dX10_swapInLine_18 : decode cX10_swapInLine 18 = .ok (.iastore, 1) := by decide +kernel
theorem dX10_swapInLine_19 : decode cX10_swapInLine 19 = .ok (.aload_n 0, 1) := by decide +kernel
theorem dX10_swapInLine_20 : decode cX10_swapInLine 20 = .ok (.getfield 35, 3) := by decide +kernel
theorem dX10_swapInLine_23 : decode cX10_swapInLine 23 = .ok (.iload_n 2, 1) := by decide +kernel
theorem dX10_swapInLine_24 : decode cX10_swapInLine 24 = .ok (.iload_n 3, 1) := by decide +kernel
theorem dX10_swapInLine_25 : decode cX10_swapInLine 25 = .ok (.iastore, 1) := by decide +kernel
theorem dX10_swapInLine_26 : decode cX10_swapInLine 26 = .ok (.return_, 1) := by decide +kernel
theorem dX10_moveInLine_0 : decode cX10_moveInLine 0 = .ok (.aload_n 0, 1) := by decide +kernel
theorem dX10_moveInLine_1 : decode cX10_moveInLine 1 = .ok (.getfield 35, 3) := by decide +kernel
theorem dX10_moveInLine_4 : decode cX10_moveInLine 4 = .ok (.iload_n 1, 1) := by decide +kernel
theorem dX10_moveInLine_5 : decode cX10_moveInLine 5 = .ok (.iaload, 1) := by decide +kernel
theorem dX10_moveInLine_6 : decode cX10_moveInLine 6 = .ok (.istore_n 3, 1) := by decide +kernel
theorem dX10_moveInLine_7 : decode cX10_moveInLine 7 = .ok (.iload_n 1, 1) := by decide +kernel
theorem dX10_moveInLine_8 : decode cX10_moveInLine 8 = .ok (.istore 4, 2) := by decide +kernel
theorem dX10_moveInLine_10 : decode cX10_moveInLine 10 = .ok (.iload 4, 2) := by decide +kernel
theorem dX10_moveInLine_12 : decode cX10_moveInLine 12 = .ok (.iload_n 2, 1) := by decide +kernel
theorem dX10_moveInLine_13 : decode cX10_moveInLine 13 = .ok (.if_icmp .ge 25, 3) := by decide +kernel
theorem dX10_moveInLine_16 : decode cX10_moveInLine 16 = .ok (.aload_n 0, 1) := by decide +kernel
theorem dX10_moveInLine_17 : decode cX10_moveInLine 17 = .ok (.getfield 35, 3) := by decide +kernel
theorem dX10_moveInLine_20 : decode cX10_moveInLine 20 = .ok (.iload 4, 2) := by decide +kernel
theorem dX10_moveInLine_22 : decode cX10_moveInLine 22 = .ok (.aload_n 0, 1) := by decide +kernel
theorem dX10_moveInLine_23 : decode cX10_moveInLine 23 = .ok (.getfield 35, 3) := by decide +kernel
theorem dX10_moveInLine_26 : decode cX10_moveInLine 26 = .ok (.iload 4, 2) := by decide +kernel
theorem dX10_moveInLine_28 : decode cX10_moveInLine 28 = .ok (.iconst 1, 1) := by decide +kernel
theorem dX10_moveInLine_29 : decode cX10_moveInLine 29 = .ok (.iadd, 1) := by decide +kernel
theorem dX10_moveInLine_30 : decode cX10_moveInLine 30 = .ok (.iaload, 1) := by decide +kernel
theorem dX10_moveInLine_31 : decode cX10_moveInLine 31 = .ok (.iastore, 1) := by decide +kernel
theorem dX10_moveInLine_32 : decode cX10_moveInLine 32 = .ok (.iinc 4 1, 3) := by decide +kernel
theorem dX10_moveInLine_35 : decode cX10_moveInLine 35 = .ok (.goto (-25), 3) := by decide +kernel
theorem dX10_moveInLine_38 : decode cX10_moveInLine 38 = .ok (.iload_n 1, 1) := by decide +kernel
theorem dX10_moveInLine_39 : decode cX10_moveInLine 39 = .ok (.istore 4, 2) := by decide +kernel
theorem dX10_moveInLine_41 : decode cX10_moveInLine 41 = .ok (.iload 4, 2) := by decide +kernel
theorem dX10_moveInLine_43 : decode cX10_moveInLine 43 = .ok (.iload_n 2, 1) := by decide +kernel
theorem dX10_moveInLine_44 : decode cX10_moveInLine 44 = .ok (.if_icmp .le 25, 3) := by decide +kernel
theorem dX10_moveInLine_47 : decode cX10_moveInLine 47 = .ok (.aload_n 0, 1) := by decide +kernel
theorem dX10_moveInLine_48 : decode cX10_moveInLine 48 = .ok (.getfield 35, 3) := by decide +kernel
theorem dX10_moveInLine_51 : decode cX10_moveInLine 51 = .ok (.iload 4, 2) := by decide +kernel
theorem dX10_moveInLine_53 : decode cX10_moveInLine 53 = .ok (.aload_n 0, 1) := by decide +kernel
theorem dX10_moveInLine_54 : decode cX10_moveInLine 54 = .ok (.getfield 35, 3) := by decide +kernel
theorem dX10_moveInLine_57 : decode cX10_moveInLine 57 = .ok (.iload 4, 2) := by decide +kernel
theorem dX10_moveInLine_59 : decode cX10_moveInLine 59 = .ok (.iconst 1, 1) := by decide +kernel
theorem dX10_moveInLine_60 : decode cX10_moveInLine 60 = .ok (.isub, 1) := by decide +kernel
theorem dX10_moveInLine_61 : decode cX10_moveInLine 61 = .ok (.iaload, 1) := by decide +kernel
theorem dX10_moveInLine_62 : decode cX10_moveInLine 62 = .ok (.iastore, 1) := by decide +kernel
theorem dX10_moveInLine_63 : decode cX10_moveInLine 63 = .ok (.iinc 4 (-1), 3) := by decide +kernel
theorem dX10_moveInLine_66 : decode cX10_moveInLine 66 = .ok (.goto (-25), 3) := by decide +kernel
theorem dX10_moveInLine_69 : decode cX10_moveInLine 69 = .ok (.aload_n 0, 1) := by decide +kernel
theorem dX10_moveInLine_70 : decode cX10_moveInLine 70 = .ok (.getfield 35, 3) := by decide +kernel
theorem dX10_moveInLine_73 : decode cX10_moveInLine 73 = .ok (.iload_n 2, 1) := by decide +kernel
theorem dX10_moveInLine_74 : decode cX10_moveInLine 74 = .ok (.iload_n 3, 1) := by decide +kernel
theorem dX10_moveInLine_75 : decode cX10_moveInLine 75 = .ok (.iastore, 1) := by decide +kernel
theorem dX10_moveInLine_76 : decode cX10_moveInLine 76 = .ok (.return_, 1) := by decide +kernel
set_option maxRecDepth 20000 in
theorem ggX10_refusesTwo_X10_isRow : GoodIn wsX10_refusesTwo wsX10_isRow := goodIn_r _ [5, 6, 7, 8, 4, 9, 10, 11, 12, 13, 14, 15, 16, 17, 18, 19, 20, 21, 22, 23, 24, 25, 26, 27, 28, 29, 30, 31, 32, 33, 34, 35, 36, 37, 38, 39] (by decide +kernel) (by decide +kernel)
set_option maxRecDepth 20000 in
theorem gX10_refusesTwo_X10_isRow : GoodIn wsX10_refusesTwo (wsV RX10 185 RX10 yX10_isRow wsX10_isRow) := goodIn_app (goodIn_of _ (by decide +kernel)) ggX10_refusesTwo_X10_isRow
theorem dX10_refusesTwo_0 : decode cX10_refusesTwo 0 = .ok (.aload_n 0, 1) := by decide +kernel
theorem dX10_refusesTwo_1 : decode cX10_refusesTwo 1 = .ok (.iload_n 1, 1) := by decide +kernel
theorem dX10_refusesTwo_2 : decode cX10_refusesTwo 2 = .ok (.invokevirtual 185, 3) := by decide +kernel
theorem dX10_refusesTwo_5 : decode cX10_refusesTwo 5 = .ok (.ifCond .eq 11, 3) := by decide +kernel
theorem dX10_refusesTwo_8 : decode cX10_refusesTwo 8 = .ok (.aload_n 0, 1) := by decide +kernel
theorem dX10_refusesTwo_9 : decode cX10_refusesTwo 9 = .ok (.iload_n 2, 1) := by decide +kernel
theorem dX10_refusesTwo_10 : decode cX10_refusesTwo 10 = .ok (.invokevirtual 185, 3) := by decide +kernel
theorem dX10_refusesTwo_13 : decode cX10_refusesTwo 13 = .ok (.ifCond .ne 7, 3) := by decide +kernel
theorem dX10_refusesTwo_16 : decode cX10_refusesTwo 16 = .ok (.iconst (-1), 1) := by decide +kernel
theorem dX10_refusesTwo_17 : decode cX10_refusesTwo 17 = .ok (.goto 14, 3) := by decide +kernel
theorem dX10_refusesTwo_20 : decode cX10_refusesTwo 20 = .ok (.iload_n 1, 1) := by decide +kernel
theorem dX10_refusesTwo_21 : decode cX10_refusesTwo 21 = .ok (.iload_n 2, 1) := by decide +kernel
theorem dX10_refusesTwo_22 : decode cX10_refusesTwo 22 = .ok (.if_icmp .ne 8, 3) := by decide +kernel
theorem dX10_refusesTwo_25 : decode cX10_refusesTwo 25 = .ok (.bipush (-2), 2) := by decide +kernel
theorem dX10_refusesTwo_27 : decode cX10_refusesTwo 27 = .ok (.goto 4, 3) := by decide +kernel
theorem dX10_refusesTwo_30 : decode cX10_refusesTwo 30 = .ok (.iconst 0, 1) := by decide +kernel
theorem dX10_refusesTwo_31 : decode cX10_refusesTwo 31 = .ok (.ireturn, 1) := by decide +kernel
set_option maxRecDepth 20000 in
theorem ggX10_arrange_X10_runsNow : GoodIn wsX10_arrange wsX10_runsNow := goodIn_r _ [5, 6, 7, 8, 4, 9, 10, 11, 12, 13, 14, 15, 16, 17, 18, 19, 20, 21, 22, 23, 24, 25, 26, 27, 28, 29, 30, 31, 32, 33, 34, 35, 36, 37, 38, 39, 40, 41, 42, 43, 44, 45, 46, 47, 48, 49, 50, 51, 52, 53, 54, 55, 56, 57, 58, 59, 60, 61, 62, 63, 64, 65, 66, 67, 68, 69, 70, 71, 72, 73, 74, 75, 76, 77, 78, 79, 80, 81, 82, 96, 97, 98, 99, 100, 101, 102, 103, 104, 105, 106, 107, 108, 109, 110, 111, 112, 113, 114, 115, 116, 117, 118, 119, 120, 121] (by decide +kernel) (by decide +kernel)
set_option maxRecDepth 20000 in
theorem gX10_arrange_X10_runsNow : GoodIn wsX10_arrange (wsV RX10 288 RX10 yX10_runsNow wsX10_runsNow) := goodIn_app (goodIn_of _ (by decide +kernel)) ggX10_arrange_X10_runsNow
set_option maxRecDepth 20000 in
theorem ggX10_arrange_X10_moveInLine : GoodIn wsX10_arrange wsX10_moveInLine := goodIn_r _ [86, 10, 96, 97, 98, 99, 100, 101, 102, 103, 104, 105, 106, 107, 108, 109, 110, 111, 112, 113, 114, 115, 116, 117, 118, 119, 120, 121] (by decide +kernel) (by decide +kernel)
set_option maxRecDepth 20000 in
theorem gX10_arrange_X10_moveInLine : GoodIn wsX10_arrange (wsV RX10 334 RX10 yX10_moveInLine wsX10_moveInLine) := goodIn_app (goodIn_of _ (by decide +kernel)) ggX10_arrange_X10_moveInLine
set_option maxRecDepth 20000 in
theorem ggX10_arrange_X10_swapInLine : GoodIn wsX10_arrange wsX10_swapInLine := goodIn_r _ [90, 10, 96, 97, 98, 99, 100, 101, 102, 103, 104, 105, 106, 107, 108, 109, 110, 111, 112, 113, 114, 115, 116, 117, 118, 119, 120, 121] (by decide +kernel) (by decide +kernel)
set_option maxRecDepth 20000 in
theorem gX10_arrange_X10_swapInLine : GoodIn wsX10_arrange (wsV RX10 337 RX10 yX10_swapInLine wsX10_swapInLine) := goodIn_app (goodIn_of _ (by decide +kernel)) ggX10_arrange_X10_swapInLine
set_option maxRecDepth 20000 in
theorem ggX10_arrange_X10_runsOfLine : GoodIn wsX10_arrange wsX10_runsOfLine := goodIn_r _ [78, 20, 21, 79, 80, 81, 4, 82, 23, 10, 11, 12, 13, 14, 15, 96, 97, 98, 99, 100, 101, 102, 103, 104, 105, 106, 107, 108, 109, 110, 111, 112, 113, 114, 115, 116, 117, 118, 119, 120, 121] (by decide +kernel) (by decide +kernel)
set_option maxRecDepth 20000 in
theorem gX10_arrange_X10_runsOfLine : GoodIn wsX10_arrange (wsV RX10 285 RX10 yX10_runsOfLine wsX10_runsOfLine) := goodIn_app (goodIn_of _ (by decide +kernel)) ggX10_arrange_X10_runsOfLine
set_option maxRecDepth 20000 in
theorem ggX10_arrange_X10_takeLine : GoodIn wsX10_arrange wsX10_takeLine := goodIn_r _ [94, 95, 15, 10, 11, 12, 13, 4, 14, 24, 25, 26, 27, 55, 56, 57, 96, 97, 98, 99, 100, 101, 102, 103, 104, 105, 106, 107, 108, 109, 110, 111, 112, 113, 114, 115, 116, 117, 118, 119, 120, 121] (by decide +kernel) (by decide +kernel)
set_option maxRecDepth 20000 in
theorem gX10_arrange_X10_takeLine : GoodIn wsX10_arrange (wsV RX10 319 RX10 yX10_takeLine wsX10_takeLine) := goodIn_app (goodIn_of _ (by decide +kernel)) ggX10_arrange_X10_takeLine
theorem dX10_arrange_0 : decode cX10_arrange 0 = .ok (.aload_n 0, 1) := by decide +kernel
theorem dX10_arrange_1 : decode cX10_arrange 1 = .ok (.invokevirtual 288, 3) := by decide +kernel
theorem dX10_arrange_4 : decode cX10_arrange 4 = .ok (.istore 4, 2) := by decide +kernel
theorem dX10_arrange_6 : decode cX10_arrange 6 = .ok (.iload_n 3, 1) := by decide +kernel
theorem dX10_arrange_7 : decode cX10_arrange 7 = .ok (.ifCond .eq 12, 3) := by decide +kernel
theorem dX10_arrange_10 : decode cX10_arrange 10 = .ok (.aload_n 0, 1) := by decide +kernel
theorem dX10_arrange_11 : decode cX10_arrange 11 = .ok (.iload_n 1, 1) := by decide +kernel
theorem dX10_arrange_12 : decode cX10_arrange 12 = .ok (.iload_n 2, 1) := by decide +kernel
theorem dX10_arrange_13 : decode cX10_arrange 13 = .ok (.invokevirtual 334, 3) := by decide +kernel
theorem dX10_arrange_16 : decode cX10_arrange 16 = .ok (.goto 9, 3) := by decide +kernel
theorem dX10_arrange_19 : decode cX10_arrange 19 = .ok (.aload_n 0, 1) := by decide +kernel
theorem dX10_arrange_20 : decode cX10_arrange 20 = .ok (.iload_n 1, 1) := by decide +kernel
theorem dX10_arrange_21 : decode cX10_arrange 21 = .ok (.iload_n 2, 1) := by decide +kernel
theorem dX10_arrange_22 : decode cX10_arrange 22 = .ok (.invokevirtual 337, 3) := by decide +kernel
theorem dX10_arrange_25 : decode cX10_arrange 25 = .ok (.iload 4, 2) := by decide +kernel
theorem dX10_arrange_27 : decode cX10_arrange 27 = .ok (.aload_n 0, 1) := by decide +kernel
theorem dX10_arrange_28 : decode cX10_arrange 28 = .ok (.invokevirtual 285, 3) := by decide +kernel
theorem dX10_arrange_31 : decode cX10_arrange 31 = .ok (.isub, 1) := by decide +kernel
theorem dX10_arrange_32 : decode cX10_arrange 32 = .ok (.istore 5, 2) := by decide +kernel
theorem dX10_arrange_34 : decode cX10_arrange 34 = .ok (.aload_n 0, 1) := by decide +kernel
theorem dX10_arrange_35 : decode cX10_arrange 35 = .ok (.invokevirtual 319, 3) := by decide +kernel
theorem dX10_arrange_38 : decode cX10_arrange 38 = .ok (.istore 6, 2) := by decide +kernel
theorem dX10_arrange_40 : decode cX10_arrange 40 = .ok (.iload 6, 2) := by decide +kernel
theorem dX10_arrange_42 : decode cX10_arrange 42 = .ok (.ifCond .le 8, 3) := by decide +kernel
theorem dX10_arrange_45 : decode cX10_arrange 45 = .ok (.iload 5, 2) := by decide +kernel
theorem dX10_arrange_47 : decode cX10_arrange 47 = .ok (.goto 4, 3) := by decide +kernel
theorem dX10_arrange_50 : decode cX10_arrange 50 = .ok (.iconst 0, 1) := by decide +kernel
theorem dX10_arrange_51 : decode cX10_arrange 51 = .ok (.ireturn, 1) := by decide +kernel
set_option maxRecDepth 20000 in
theorem ggX10_swaps_X10_refusesTwo : GoodIn wsX10_swaps wsX10_refusesTwo := goodIn_r _ [6, 7, 8, 9, 5, 10, 11, 12, 13, 14, 15, 16, 17, 18, 124, 125, 126, 127, 128, 129, 130, 131, 132, 133, 134, 135, 136, 137, 138, 139, 140, 141, 142, 143, 144, 145, 146, 147, 148, 149] (by decide +kernel) (by decide +kernel)
set_option maxRecDepth 20000 in
theorem gX10_swaps_X10_refusesTwo : GoodIn wsX10_swaps (wsV RX10 340 RX10 yX10_refusesTwo wsX10_refusesTwo) := goodIn_app (goodIn_of _ (by decide +kernel)) ggX10_swaps_X10_refusesTwo
set_option maxRecDepth 20000 in
theorem ggX10_swaps_X10_change : GoodIn wsX10_swaps wsX10_change := goodIn_r _ [22, 23, 24, 25, 5, 26, 27, 15, 28, 29, 30, 31, 32, 33, 124, 125, 126, 127, 128, 129, 130, 131, 132, 133, 134, 135, 136, 137, 138, 139, 140, 141, 142, 143, 144, 145, 146, 147, 148, 149] (by decide +kernel) (by decide +kernel)
set_option maxRecDepth 20000 in
theorem gX10_swaps_X10_change : GoodIn wsX10_swaps (wsV RX10 148 RX10 yX10_change wsX10_change) := goodIn_app (goodIn_of _ (by decide +kernel)) ggX10_swaps_X10_change
set_option maxRecDepth 20000 in
theorem ggX10_swaps_X10_arrange : GoodIn wsX10_swaps wsX10_arrange := goodIn_r _ [37, 38, 39, 40, 5, 41, 42, 43, 44, 45, 46, 11, 12, 13, 14, 15, 47, 48, 49, 50, 51, 52, 53, 54, 55, 56, 57, 58, 59, 60, 61, 62, 63, 64, 65, 66, 16, 17, 18, 67, 68, 69, 70, 71, 72, 73, 74, 75, 76, 77, 78, 79, 80, 81, 82, 83, 84, 85, 86, 87, 88, 89, 90, 91, 92, 93, 94, 95, 96, 97, 98, 99, 100, 101, 102, 103, 104, 105, 106, 107, 108, 109, 110, 111, 112, 113, 114, 115, 116, 117, 118, 119, 120, 121, 122, 123, 124, 125, 126, 127, 128, 129, 130, 131, 132, 133, 134, 135, 136, 137, 138, 139, 140, 141, 142, 143, 144, 145, 146, 147, 148, 149] (by decide +kernel) (by decide +kernel)
set_option maxRecDepth 20000 in
theorem gX10_swaps_X10_arrange : GoodIn wsX10_swaps (wsV RX10 343 RX10 yX10_arrange wsX10_arrange) := goodIn_app (goodIn_of _ (by decide +kernel)) ggX10_swaps_X10_arrange
theorem dX10_swaps_0 : decode cX10_swaps 0 = .ok (.aload_n 0, 1) := by decide +kernel
theorem dX10_swaps_1 : decode cX10_swaps 1 = .ok (.iconst 0, 1) := by decide +kernel
theorem dX10_swaps_2 : decode cX10_swaps 2 = .ok (.putfield 67, 3) := by decide +kernel
theorem dX10_swaps_5 : decode cX10_swaps 5 = .ok (.aload_n 0, 1) := by decide +kernel
theorem dX10_swaps_6 : decode cX10_swaps 6 = .ok (.iload_n 1, 1) := by decide +kernel
theorem dX10_swaps_7 : decode cX10_swaps 7 = .ok (.iload_n 2, 1) := by decide +kernel
theorem dX10_swaps_8 : decode cX10_swaps 8 = .ok (.invokevirtual 340, 3) := by decide +kernel
theorem dX10_swaps_11 : decode cX10_swaps 11 = .ok (.istore_n 3, 1) := by decide +kernel
theorem dX10_swaps_12 : decode cX10_swaps 12 = .ok (.iload_n 3, 1) := by decide +kernel
theorem dX10_swaps_13 : decode cX10_swaps 13 = .ok (.ifCond .ge 5, 3) := by decide +kernel
theorem dX10_swaps_16 : decode cX10_swaps 16 = .ok (.iload_n 3, 1) := by decide +kernel
theorem dX10_swaps_17 : decode cX10_swaps 17 = .ok (.ireturn, 1) := by decide +kernel
theorem dX10_swaps_18 : decode cX10_swaps 18 = .ok (.aload_n 0, 1) := by decide +kernel
theorem dX10_swaps_19 : decode cX10_swaps 19 = .ok (.invokevirtual 148, 3) := by decide +kernel
theorem dX10_swaps_22 : decode cX10_swaps 22 = .ok (.sipush 1000, 3) := by decide +kernel
theorem dX10_swaps_25 : decode cX10_swaps 25 = .ok (.aload_n 0, 1) := by decide +kernel
theorem dX10_swaps_26 : decode cX10_swaps 26 = .ok (.iload_n 1, 1) := by decide +kernel
theorem dX10_swaps_27 : decode cX10_swaps 27 = .ok (.iload_n 2, 1) := by decide +kernel
theorem dX10_swaps_28 : decode cX10_swaps 28 = .ok (.iconst 0, 1) := by decide +kernel
theorem dX10_swaps_29 : decode cX10_swaps 29 = .ok (.invokevirtual 343, 3) := by decide +kernel
theorem dX10_swaps_32 : decode cX10_swaps 32 = .ok (.iadd, 1) := by decide +kernel
theorem dX10_swaps_33 : decode cX10_swaps 33 = .ok (.ireturn, 1) := by decide +kernel
set_option maxRecDepth 20000 in
theorem ggX10_moves_X10_refusesTwo : GoodIn wsX10_moves wsX10_refusesTwo := goodIn_r _ [6, 7, 8, 9, 5, 10, 11, 12, 13, 14, 15, 16, 17, 18, 124, 125, 126, 127, 128, 129, 130, 131, 132, 133, 134, 135, 136, 137, 138, 139, 140, 141, 142, 143, 144, 145, 146, 147, 148, 149] (by decide +kernel) (by decide +kernel)
set_option maxRecDepth 20000 in
theorem gX10_moves_X10_refusesTwo : GoodIn wsX10_moves (wsV RX10 340 RX10 yX10_refusesTwo wsX10_refusesTwo) := goodIn_app (goodIn_of _ (by decide +kernel)) ggX10_moves_X10_refusesTwo
set_option maxRecDepth 20000 in
theorem ggX10_moves_X10_change : GoodIn wsX10_moves wsX10_change := goodIn_r _ [22, 23, 24, 25, 5, 26, 27, 15, 28, 29, 30, 31, 32, 33, 124, 125, 126, 127, 128, 129, 130, 131, 132, 133, 134, 135, 136, 137, 138, 139, 140, 141, 142, 143, 144, 145, 146, 147, 148, 149] (by decide +kernel) (by decide +kernel)
set_option maxRecDepth 20000 in
theorem gX10_moves_X10_change : GoodIn wsX10_moves (wsV RX10 148 RX10 yX10_change wsX10_change) := goodIn_app (goodIn_of _ (by decide +kernel)) ggX10_moves_X10_change
set_option maxRecDepth 20000 in
theorem ggX10_moves_X10_arrange : GoodIn wsX10_moves wsX10_arrange := goodIn_r _ [37, 38, 39, 40, 5, 41, 42, 43, 44, 45, 46, 11, 12, 13, 14, 15, 47, 48, 49, 50, 51, 52, 53, 54, 55, 56, 57, 58, 59, 60, 61, 62, 63, 64, 65, 66, 16, 17, 18, 67, 68, 69, 70, 71, 72, 73, 74, 75, 76, 77, 78, 79, 80, 81, 82, 83, 84, 85, 86, 87, 88, 89, 90, 91, 92, 93, 94, 95, 96, 97, 98, 99, 100, 101, 102, 103, 104, 105, 106, 107, 108, 109, 110, 111, 112, 113, 114, 115, 116, 117, 118, 119, 120, 121, 122, 123, 124, 125, 126, 127, 128, 129, 130, 131, 132, 133, 134, 135, 136, 137, 138, 139, 140, 141, 142, 143, 144, 145, 146, 147, 148, 149] (by decide +kernel) (by decide +kernel)
set_option maxRecDepth 20000 in
theorem gX10_moves_X10_arrange : GoodIn wsX10_moves (wsV RX10 343 RX10 yX10_arrange wsX10_arrange) := goodIn_app (goodIn_of _ (by decide +kernel)) ggX10_moves_X10_arrange
theorem dX10_moves_0 : decode cX10_moves 0 = .ok (.aload_n 0, 1) := by decide +kernel
theorem dX10_moves_1 : decode cX10_moves 1 = .ok (.iconst 0, 1) := by decide +kernel
theorem dX10_moves_2 : decode cX10_moves 2 = .ok (.putfield 67, 3) := by decide +kernel
theorem dX10_moves_5 : decode cX10_moves 5 = .ok (.aload_n 0, 1) := by decide +kernel
theorem dX10_moves_6 : decode cX10_moves 6 = .ok (.iload_n 1, 1) := by decide +kernel
theorem dX10_moves_7 : decode cX10_moves 7 = .ok (.iload_n 2, 1) := by decide +kernel
theorem dX10_moves_8 : decode cX10_moves 8 = .ok (.invokevirtual 340, 3) := by decide +kernel
theorem dX10_moves_11 : decode cX10_moves 11 = .ok (.istore_n 3, 1) := by decide +kernel
theorem dX10_moves_12 : decode cX10_moves 12 = .ok (.iload_n 3, 1) := by decide +kernel
theorem dX10_moves_13 : decode cX10_moves 13 = .ok (.ifCond .ge 5, 3) := by decide +kernel
theorem dX10_moves_16 : decode cX10_moves 16 = .ok (.iload_n 3, 1) := by decide +kernel
theorem dX10_moves_17 : decode cX10_moves 17 = .ok (.ireturn, 1) := by decide +kernel
theorem dX10_moves_18 : decode cX10_moves 18 = .ok (.aload_n 0, 1) := by decide +kernel
theorem dX10_moves_19 : decode cX10_moves 19 = .ok (.invokevirtual 148, 3) := by decide +kernel
theorem dX10_moves_22 : decode cX10_moves 22 = .ok (.sipush 1000, 3) := by decide +kernel
theorem dX10_moves_25 : decode cX10_moves 25 = .ok (.aload_n 0, 1) := by decide +kernel
theorem dX10_moves_26 : decode cX10_moves 26 = .ok (.iload_n 1, 1) := by decide +kernel
theorem dX10_moves_27 : decode cX10_moves 27 = .ok (.iload_n 2, 1) := by decide +kernel
theorem dX10_moves_28 : decode cX10_moves 28 = .ok (.iconst 1, 1) := by decide +kernel
theorem dX10_moves_29 : decode cX10_moves 29 = .ok (.invokevirtual 343, 3) := by decide +kernel
theorem dX10_moves_32 : decode cX10_moves 32 = .ok (.iadd, 1) := by decide +kernel
theorem dX10_moves_33 : decode cX10_moves 33 = .ok (.ireturn, 1) := by decide +kernel
set_option maxRecDepth 20000 in
theorem ggX10_bestSwap_X10_runsNow : GoodIn wsX10_bestSwap wsX10_runsNow := goodIn_r _ [7, 8, 9, 10, 6, 11, 12, 13, 14, 15, 16, 17, 18, 19, 20, 21, 22, 23, 24, 25, 26, 27, 28, 29, 30, 31, 32, 33, 34, 35, 36, 37, 38, 39, 40, 41, 42, 43, 44, 45, 46, 47, 48, 49, 50, 51, 52, 53, 54, 55, 56, 57, 58, 59, 60, 61, 62, 63, 64, 65, 66, 67, 68, 69, 70, 71, 72, 73, 74, 75, 76, 77, 78, 79, 80, 81, 82, 83, 84, 94, 95, 96, 97, 98, 99, 100, 101, 102, 103, 104, 105, 106, 107, 108, 109, 110, 111, 112, 113, 114, 115, 116, 117, 118, 119] (by decide +kernel) (by decide +kernel)
set_option maxRecDepth 20000 in
theorem gX10_bestSwap_X10_runsNow : GoodIn wsX10_bestSwap (wsV RX10 288 RX10 yX10_runsNow wsX10_runsNow) := goodIn_app (goodIn_of _ (by decide +kernel)) ggX10_bestSwap_X10_runsNow
set_option maxRecDepth 20000 in
theorem ggX10_bestSwap_X10_rows : GoodIn wsX10_bestSwap wsX10_rows := goodIn_r _ [16, 17, 94, 95, 96, 97, 98, 99, 100, 101, 102, 103, 104, 105, 106, 107, 108, 109, 110, 111, 112, 113, 114, 115, 116, 117, 118, 119] (by decide +kernel) (by decide +kernel)
set_option maxRecDepth 20000 in
theorem gX10_bestSwap_X10_rows : GoodIn wsX10_bestSwap (wsV RX10 82 RX10 yX10_rows wsX10_rows) := goodIn_app (goodIn_of _ (by decide +kernel)) ggX10_bestSwap_X10_rows
set_option maxRecDepth 20000 in
theorem ggX10_bestSwap_X10_swapInLine : GoodIn wsX10_bestSwap wsX10_swapInLine := goodIn_r _ [88, 12, 94, 95, 96, 97, 98, 99, 100, 101, 102, 103, 104, 105, 106, 107, 108, 109, 110, 111, 112, 113, 114, 115, 116, 117, 118, 119] (by decide +kernel) (by decide +kernel)
set_option maxRecDepth 20000 in
theorem gX10_bestSwap_X10_swapInLine : GoodIn wsX10_bestSwap (wsV RX10 337 RX10 yX10_swapInLine wsX10_swapInLine) := goodIn_app (goodIn_of _ (by decide +kernel)) ggX10_bestSwap_X10_swapInLine
set_option maxRecDepth 20000 in
theorem ggX10_bestSwap_X10_runsOfLine : GoodIn wsX10_bestSwap wsX10_runsOfLine := goodIn_r _ [80, 22, 23, 81, 82, 83, 6, 84, 25, 12, 13, 14, 15, 16, 17, 94, 95, 96, 97, 98, 99, 100, 101, 102, 103, 104, 105, 106, 107, 108, 109, 110, 111, 112, 113, 114, 115, 116, 117, 118, 119] (by decide +kernel) (by decide +kernel)
set_option maxRecDepth 20000 in
theorem gX10_bestSwap_X10_runsOfLine : GoodIn wsX10_bestSwap (wsV RX10 285 RX10 yX10_runsOfLine wsX10_runsOfLine) := goodIn_app (goodIn_of _ (by decide +kernel)) ggX10_bestSwap_X10_runsOfLine
set_option maxRecDepth 20000 in
theorem ggX10_bestSwap_X10_tell : GoodIn wsX10_bestSwap wsX10_tell := goodIn_r _ [92, 93, 2, 94, 95, 96, 97, 98, 99, 100, 101, 102, 103, 104, 105, 106, 107, 108, 109, 110, 111, 112, 113, 114, 115, 116, 117, 118, 119] (by decide +kernel) (by decide +kernel)
set_option maxRecDepth 20000 in
theorem gX10_bestSwap_X10_tell : GoodIn wsX10_bestSwap (wsV RX10 237 RX10 yX10_tell wsX10_tell) := goodIn_app (goodIn_of _ (by decide +kernel)) ggX10_bestSwap_X10_tell
theorem dX10_bestSwap_0 : decode cX10_bestSwap 0 = .ok (.aload_n 0, 1) := by decide +kernel
theorem dX10_bestSwap_1 : decode cX10_bestSwap 1 = .ok (.iconst 0, 1) := by decide +kernel
theorem dX10_bestSwap_2 : decode cX10_bestSwap 2 = .ok (.putfield 67, 3) := by decide +kernel
theorem dX10_bestSwap_5 : decode cX10_bestSwap 5 = .ok (.aload_n 0, 1) := by decide +kernel
theorem dX10_bestSwap_6 : decode cX10_bestSwap 6 = .ok (.invokevirtual 288, 3) := by decide +kernel
theorem dX10_bestSwap_9 : decode cX10_bestSwap 9 = .ok (.istore_n 1, 1) := by decide +kernel
theorem dX10_bestSwap_10 : decode cX10_bestSwap 10 = .ok (.iconst 0, 1) := by decide +kernel
theorem dX10_bestSwap_11 : decode cX10_bestSwap 11 = .ok (.istore_n 2, 1) := by decide +kernel
theorem dX10_bestSwap_12 : decode cX10_bestSwap 12 = .ok (.iconst (-1), 1) := by decide +kernel
theorem dX10_bestSwap_13 : decode cX10_bestSwap 13 = .ok (.istore_n 3, 1) := by decide +kernel
theorem dX10_bestSwap_14 : decode cX10_bestSwap 14 = .ok (.iconst (-1), 1) := by decide +kernel
theorem dX10_bestSwap_15 : decode cX10_bestSwap 15 = .ok (.istore 4, 2) := by decide +kernel
theorem dX10_bestSwap_17 : decode cX10_bestSwap 17 = .ok (.iconst 0, 1) := by decide +kernel
theorem dX10_bestSwap_18 : decode cX10_bestSwap 18 = .ok (.istore 5, 2) := by decide +kernel
theorem dX10_bestSwap_20 : decode cX10_bestSwap 20 = .ok (.iload 5, 2) := by decide +kernel
theorem dX10_bestSwap_22 : decode cX10_bestSwap 22 = .ok (.aload_n 0, 1) := by decide +kernel
theorem dX10_bestSwap_23 : decode cX10_bestSwap 23 = .ok (.invokevirtual 82, 3) := by decide +kernel
theorem dX10_bestSwap_26 : decode cX10_bestSwap 26 = .ok (.if_icmp .ge 73, 3) := by decide +kernel
theorem dX10_bestSwap_29 : decode cX10_bestSwap 29 = .ok (.iload 5, 2) := by decide +kernel
theorem dX10_bestSwap_31 : decode cX10_bestSwap 31 = .ok (.iconst 1, 1) := by decide +kernel
theorem dX10_bestSwap_32 : decode cX10_bestSwap 32 = .ok (.iadd, 1) := by decide +kernel
theorem dX10_bestSwap_33 : decode cX10_bestSwap 33 = .ok (.istore 6, 2) := by decide +kernel
theorem dX10_bestSwap_35 : decode cX10_bestSwap 35 = .ok (.iload 6, 2) := by decide +kernel
theorem dX10_bestSwap_37 : decode cX10_bestSwap 37 = .ok (.aload_n 0, 1) := by decide +kernel
theorem dX10_bestSwap_38 : decode cX10_bestSwap 38 = .ok (.invokevirtual 82, 3) := by decide +kernel
theorem dX10_bestSwap_41 : decode cX10_bestSwap 41 = .ok (.if_icmp .ge 52, 3) := by decide +kernel
theorem dX10_bestSwap_44 : decode cX10_bestSwap 44 = .ok (.aload_n 0, 1) := by decide +kernel
theorem dX10_bestSwap_45 : decode cX10_bestSwap 45 = .ok (.iload 5, 2) := by decide +kernel
theorem dX10_bestSwap_47 : decode cX10_bestSwap 47 = .ok (.iload 6, 2) := by decide +kernel
theorem dX10_bestSwap_49 : decode cX10_bestSwap 49 = .ok (.invokevirtual 337, 3) := by decide +kernel
theorem dX10_bestSwap_52 : decode cX10_bestSwap 52 = .ok (.iload_n 1, 1) := by decide +kernel
theorem dX10_bestSwap_53 : decode cX10_bestSwap 53 = .ok (.aload_n 0, 1) := by decide +kernel
theorem dX10_bestSwap_54 : decode cX10_bestSwap 54 = .ok (.invokevirtual 285, 3) := by decide +kernel
theorem dX10_bestSwap_57 : decode cX10_bestSwap 57 = .ok (.isub, 1) := by decide +kernel
theorem dX10_bestSwap_58 : decode cX10_bestSwap 58 = .ok (.istore 7, 2) := by decide +kernel
theorem dX10_bestSwap_60 : decode cX10_bestSwap 60 = .ok (.aload_n 0, 1) := by decide +kernel
theorem dX10_bestSwap_61 : decode cX10_bestSwap 61 = .ok (.iload 5, 2) := by decide +kernel
theorem dX10_bestSwap_63 : decode cX10_bestSwap 63 = .ok (.iload 6, 2) := by decide +kernel
theorem dX10_bestSwap_65 : decode cX10_bestSwap 65 = .ok (.invokevirtual 337, 3) := by decide +kernel
theorem dX10_bestSwap_68 : decode cX10_bestSwap 68 = .ok (.iload 7, 2) := by decide +kernel
theorem dX10_bestSwap_70 : decode cX10_bestSwap 70 = .ok (.iload_n 2, 1) := by decide +kernel
theorem dX10_bestSwap_71 : decode cX10_bestSwap 71 = .ok (.if_icmp .gt 6, 3) := by decide +kernel
theorem dX10_bestSwap_74 : decode cX10_bestSwap 74 = .ok (.goto 13, 3) := by decide +kernel
theorem dX10_bestSwap_77 : decode cX10_bestSwap 77 = .ok (.iload 7, 2) := by decide +kernel
theorem dX10_bestSwap_79 : decode cX10_bestSwap 79 = .ok (.istore_n 2, 1) := by decide +kernel
theorem dX10_bestSwap_80 : decode cX10_bestSwap 80 = .ok (.iload 5, 2) := by decide +kernel
theorem dX10_bestSwap_82 : decode cX10_bestSwap 82 = .ok (.istore_n 3, 1) := by decide +kernel
theorem dX10_bestSwap_83 : decode cX10_bestSwap 83 = .ok (.iload 6, 2) := by decide +kernel
theorem dX10_bestSwap_85 : decode cX10_bestSwap 85 = .ok (.istore 4, 2) := by decide +kernel
theorem dX10_bestSwap_87 : decode cX10_bestSwap 87 = .ok (.iinc 6 1, 3) := by decide +kernel
theorem dX10_bestSwap_90 : decode cX10_bestSwap 90 = .ok (.goto (-55), 3) := by decide +kernel
theorem dX10_bestSwap_93 : decode cX10_bestSwap 93 = .ok (.iinc 5 1, 3) := by decide +kernel
theorem dX10_bestSwap_96 : decode cX10_bestSwap 96 = .ok (.goto (-76), 3) := by decide +kernel
theorem dX10_bestSwap_99 : decode cX10_bestSwap 99 = .ok (.iload_n 2, 1) := by decide +kernel
theorem dX10_bestSwap_100 : decode cX10_bestSwap 100 = .ok (.ifCond .ne 6, 3) := by decide +kernel
theorem dX10_bestSwap_103 : decode cX10_bestSwap 103 = .ok (.bipush (-2), 2) := by decide +kernel
theorem dX10_bestSwap_105 : decode cX10_bestSwap 105 = .ok (.ireturn, 1) := by decide +kernel
theorem dX10_bestSwap_106 : decode cX10_bestSwap 106 = .ok (.aload_n 0, 1) := by decide +kernel
theorem dX10_bestSwap_107 : decode cX10_bestSwap 107 = .ok (.iconst 0, 1) := by decide +kernel
theorem dX10_bestSwap_108 : decode cX10_bestSwap 108 = .ok (.putfield 71, 3) := by decide +kernel
theorem dX10_bestSwap_111 : decode cX10_bestSwap 111 = .ok (.aload_n 0, 1) := by decide +kernel
theorem dX10_bestSwap_112 : decode cX10_bestSwap 112 = .ok (.iload_n 3, 1) := by decide +kernel
theorem dX10_bestSwap_113 : decode cX10_bestSwap 113 = .ok (.i2l, 1) := by decide +kernel
theorem dX10_bestSwap_114 : decode cX10_bestSwap 114 = .ok (.invokevirtual 237, 3) := by decide +kernel
theorem dX10_bestSwap_117 : decode cX10_bestSwap 117 = .ok (.aload_n 0, 1) := by decide +kernel
theorem dX10_bestSwap_118 : decode cX10_bestSwap 118 = .ok (.iload 4, 2) := by decide +kernel
theorem dX10_bestSwap_120 : decode cX10_bestSwap 120 = .ok (.i2l, 1) := by decide +kernel
theorem dX10_bestSwap_121 : decode cX10_bestSwap 121 = .ok (.invokevirtual 237, 3) := by decide +kernel
theorem dX10_bestSwap_124 : decode cX10_bestSwap 124 = .ok (.iload_n 2, 1) := by decide +kernel
theorem dX10_bestSwap_125 : decode cX10_bestSwap 125 = .ok (.ireturn, 1) := by decide +kernel
set_option maxRecDepth 20000 in
theorem ggX10_place_X10_isRow : GoodIn wsX10_place wsX10_isRow := goodIn_r _ [7, 8, 9, 10, 6, 11, 12, 13, 14, 15, 94, 95, 96, 97, 98, 99, 100, 101, 102, 103, 104, 105, 106, 107, 108, 109, 110, 111, 112, 113, 114, 115, 116, 117, 118, 119] (by decide +kernel) (by decide +kernel)
set_option maxRecDepth 20000 in
theorem gX10_place_X10_isRow : GoodIn wsX10_place (wsV RX10 185 RX10 yX10_isRow wsX10_isRow) := goodIn_app (goodIn_of _ (by decide +kernel)) ggX10_place_X10_isRow
set_option maxRecDepth 20000 in
theorem ggX10_place_X10_layLine : GoodIn wsX10_place wsX10_layLine := goodIn_r _ [19, 20, 8, 9, 10, 6, 11, 12, 21, 22, 23, 24, 25, 26, 27, 28, 29, 30, 31, 32, 33, 34, 35, 36, 37, 38, 39, 40, 13, 14, 15, 41, 42, 43, 44, 45, 46, 47, 48, 49, 50, 51, 52, 53, 54, 55, 56, 57, 58, 59, 60, 61, 62, 63, 64, 65, 66, 67, 68, 69, 70, 71, 72, 73, 74, 75, 76, 94, 95, 96, 97, 98, 99, 100, 101, 102, 103, 104, 105, 106, 107, 108, 109, 110, 111, 112, 113, 114, 115, 116, 117, 118, 119] (by decide +kernel) (by decide +kernel)
set_option maxRecDepth 20000 in
theorem gX10_place_X10_layLine : GoodIn wsX10_place (wsV RX10 282 RX10 yX10_layLine wsX10_layLine) := goodIn_app (goodIn_of _ (by decide +kernel)) ggX10_place_X10_layLine
set_option maxRecDepth 20000 in
theorem ggX10_place_X10_rows : GoodIn wsX10_place wsX10_rows := goodIn_r _ [11, 12, 94, 95, 96, 97, 98, 99, 100, 101, 102, 103, 104, 105, 106, 107, 108, 109, 110, 111, 112, 113, 114, 115, 116, 117, 118, 119] (by decide +kernel) (by decide +kernel)
set_option maxRecDepth 20000 in
theorem gX10_place_X10_rows : GoodIn wsX10_place (wsV RX10 82 RX10 yX10_rows wsX10_rows) := goodIn_app (goodIn_of _ (by decide +kernel)) ggX10_place_X10_rows
set_option maxRecDepth 20000 in
theorem ggX10_place_X10_moveInLine : GoodIn wsX10_place wsX10_moveInLine := goodIn_r _ [80, 20, 94, 95, 96, 97, 98, 99, 100, 101, 102, 103, 104, 105, 106, 107, 108, 109, 110, 111, 112, 113, 114, 115, 116, 117, 118, 119] (by decide +kernel) (by decide +kernel)
set_option maxRecDepth 20000 in
theorem gX10_place_X10_moveInLine : GoodIn wsX10_place (wsV RX10 334 RX10 yX10_moveInLine wsX10_moveInLine) := goodIn_app (goodIn_of _ (by decide +kernel)) ggX10_place_X10_moveInLine
set_option maxRecDepth 20000 in
theorem ggX10_place_X10_runsOfLine : GoodIn wsX10_place wsX10_runsOfLine := goodIn_r _ [84, 25, 26, 85, 86, 87, 6, 88, 28, 20, 8, 9, 10, 11, 12, 94, 95, 96, 97, 98, 99, 100, 101, 102, 103, 104, 105, 106, 107, 108, 109, 110, 111, 112, 113, 114, 115, 116, 117, 118, 119] (by decide +kernel) (by decide +kernel)
set_option maxRecDepth 20000 in
theorem gX10_place_X10_runsOfLine : GoodIn wsX10_place (wsV RX10 285 RX10 yX10_runsOfLine wsX10_runsOfLine) := goodIn_app (goodIn_of _ (by decide +kernel)) ggX10_place_X10_runsOfLine
set_option maxRecDepth 20000 in
theorem ggX10_place_X10_tell : GoodIn wsX10_place wsX10_tell := goodIn_r _ [92, 93, 2, 94, 95, 96, 97, 98, 99, 100, 101, 102, 103, 104, 105, 106, 107, 108, 109, 110, 111, 112, 113, 114, 115, 116, 117, 118, 119] (by decide +kernel) (by decide +kernel)
set_option maxRecDepth 20000 in
theorem gX10_place_X10_tell : GoodIn wsX10_place (wsV RX10 237 RX10 yX10_tell wsX10_tell) := goodIn_app (goodIn_of _ (by decide +kernel)) ggX10_place_X10_tell
theorem dX10_place_0 : decode cX10_place 0 = .ok (.aload_n 0, 1) := by decide +kernel
theorem dX10_place_1 : decode cX10_place 1 = .ok (.iconst 0, 1) := by decide +kernel
theorem dX10_place_2 : decode cX10_place 2 = .ok (.putfield 67, 3) := by decide +kernel
theorem dX10_place_5 : decode cX10_place 5 = .ok (.aload_n 0, 1) := by decide +kernel
theorem dX10_place_6 : decode cX10_place 6 = .ok (.iload_n 1, 1) := by decide +kernel
theorem dX10_place_7 : decode cX10_place 7 = .ok (.invokevirtual 185, 3) := by decide +kernel
theorem dX10_place_10 : decode cX10_place 10 = .ok (.ifCond .ne 5, 3) := by decide +kernel
theorem dX10_place_13 : decode cX10_place 13 = .ok (.iconst (-1), 1) := by decide +kernel
theorem dX10_place_14 : decode cX10_place 14 = .ok (.ireturn, 1) := by decide +kernel
theorem dX10_place_15 : decode cX10_place 15 = .ok (.aload_n 0, 1) := by decide +kernel
theorem dX10_place_16 : decode cX10_place 16 = .ok (.invokevirtual 282, 3) := by decide +kernel
theorem dX10_place_19 : decode cX10_place 19 = .ok (.iconst (-1), 1) := by decide +kernel
theorem dX10_place_20 : decode cX10_place 20 = .ok (.istore_n 2, 1) := by decide +kernel
theorem dX10_place_21 : decode cX10_place 21 = .ok (.iconst 0, 1) := by decide +kernel
theorem dX10_place_22 : decode cX10_place 22 = .ok (.istore_n 3, 1) := by decide +kernel
theorem dX10_place_23 : decode cX10_place 23 = .ok (.iconst 0, 1) := by decide +kernel
theorem dX10_place_24 : decode cX10_place 24 = .ok (.istore 4, 2) := by decide +kernel
theorem dX10_place_26 : decode cX10_place 26 = .ok (.iload 4, 2) := by decide +kernel
theorem dX10_place_28 : decode cX10_place 28 = .ok (.aload_n 0, 1) := by decide +kernel
theorem dX10_place_29 : decode cX10_place 29 = .ok (.invokevirtual 82, 3) := by decide +kernel
theorem dX10_place_32 : decode cX10_place 32 = .ok (.if_icmp .ge 49, 3) := by decide +kernel
theorem dX10_place_35 : decode cX10_place 35 = .ok (.aload_n 0, 1) := by decide +kernel
theorem dX10_place_36 : decode cX10_place 36 = .ok (.iload_n 1, 1) := by decide +kernel
theorem dX10_place_37 : decode cX10_place 37 = .ok (.iload 4, 2) := by decide +kernel
theorem dX10_place_39 : decode cX10_place 39 = .ok (.invokevirtual 334, 3) := by decide +kernel
theorem dX10_place_42 : decode cX10_place 42 = .ok (.aload_n 0, 1) := by decide +kernel
theorem dX10_place_43 : decode cX10_place 43 = .ok (.invokevirtual 285, 3) := by decide +kernel
theorem dX10_place_46 : decode cX10_place 46 = .ok (.istore 5, 2) := by decide +kernel
theorem dX10_place_48 : decode cX10_place 48 = .ok (.aload_n 0, 1) := by decide +kernel
theorem dX10_place_49 : decode cX10_place 49 = .ok (.iload 4, 2) := by decide +kernel
theorem dX10_place_51 : decode cX10_place 51 = .ok (.iload_n 1, 1) := by decide +kernel
theorem dX10_place_52 : decode cX10_place 52 = .ok (.invokevirtual 334, 3) := by decide +kernel
theorem dX10_place_55 : decode cX10_place 55 = .ok (.iload_n 2, 1) := by decide +kernel
theorem dX10_place_56 : decode cX10_place 56 = .ok (.iconst (-1), 1) := by decide +kernel
theorem dX10_place_57 : decode cX10_place 57 = .ok (.if_icmp .eq 12, 3) := by decide +kernel
theorem dX10_place_60 : decode cX10_place 60 = .ok (.iload 5, 2) := by decide +kernel
theorem dX10_place_62 : decode cX10_place 62 = .ok (.iload_n 3, 1) := by decide +kernel
theorem dX10_place_63 : decode cX10_place 63 = .ok (.if_icmp .lt 6, 3) := by decide +kernel
theorem dX10_place_66 : decode cX10_place 66 = .ok (.goto 9, 3) := by decide +kernel
theorem dX10_place_69 : decode cX10_place 69 = .ok (.iload 4, 2) := by decide +kernel
theorem dX10_place_71 : decode cX10_place 71 = .ok (.istore_n 2, 1) := by decide +kernel
theorem dX10_place_72 : decode cX10_place 72 = .ok (.iload 5, 2) := by decide +kernel
theorem dX10_place_74 : decode cX10_place 74 = .ok (.istore_n 3, 1) := by decide +kernel
theorem dX10_place_75 : decode cX10_place 75 = .ok (.iinc 4 1, 3) := by decide +kernel
theorem dX10_place_78 : decode cX10_place 78 = .ok (.goto (-52), 3) := by decide +kernel
theorem dX10_place_81 : decode cX10_place 81 = .ok (.aload_n 0, 1) := by decide +kernel
theorem dX10_place_82 : decode cX10_place 82 = .ok (.iconst 0, 1) := by decide +kernel
theorem dX10_place_83 : decode cX10_place 83 = .ok (.putfield 71, 3) := by decide +kernel
theorem dX10_place_86 : decode cX10_place 86 = .ok (.aload_n 0, 1) := by decide +kernel
theorem dX10_place_87 : decode cX10_place 87 = .ok (.iload_n 3, 1) := by decide +kernel
theorem dX10_place_88 : decode cX10_place 88 = .ok (.i2l, 1) := by decide +kernel
theorem dX10_place_89 : decode cX10_place 89 = .ok (.invokevirtual 237, 3) := by decide +kernel
theorem dX10_place_92 : decode cX10_place 92 = .ok (.iload_n 2, 1) := by decide +kernel
theorem dX10_place_93 : decode cX10_place 93 = .ok (.ireturn, 1) := by decide +kernel
theorem dX10_rowOf_0 : decode cX10_rowOf 0 = .ok (.iconst 0, 1) := by decide +kernel
theorem dX10_rowOf_1 : decode cX10_rowOf 1 = .ok (.istore_n 2, 1) := by decide +kernel
theorem dX10_rowOf_2 : decode cX10_rowOf 2 = .ok (.aload_n 0, 1) := by decide +kernel
theorem dX10_rowOf_3 : decode cX10_rowOf 3 = .ok (.getfield 11, 3) := by decide +kernel
theorem dX10_rowOf_6 : decode cX10_rowOf 6 = .ok (.bipush 8, 2) := by decide +kernel
theorem dX10_rowOf_8 : decode cX10_rowOf 8 = .ok (.iload_n 2, 1) := by decide +kernel
theorem dX10_rowOf_9 : decode cX10_rowOf 9 = .ok (.iadd, 1) := by decide +kernel
theorem dX10_rowOf_10 : decode cX10_rowOf 10 = .ok (.laload, 1) := by decide +kernel
theorem dX10_rowOf_11 : decode cX10_rowOf 11 = .ok (.iload_n 1, 1) := by decide +kernel
theorem dX10_rowOf_12 : decode cX10_rowOf 12 = .ok (.i2l, 1) := by decide +kernel
theorem dX10_rowOf_13 : decode cX10_rowOf 13 = .ok (.lcmp, 1) := by decide +kernel
theorem dX10_rowOf_14 : decode cX10_rowOf 14 = .ok (.ifCond .eq 9, 3) := by decide +kernel
theorem dX10_rowOf_17 : decode cX10_rowOf 17 = .ok (.iinc 2 1, 3) := by decide +kernel
theorem dX10_rowOf_20 : decode cX10_rowOf 20 = .ok (.goto (-18), 3) := by decide +kernel
theorem dX10_rowOf_23 : decode cX10_rowOf 23 = .ok (.iload_n 2, 1) := by decide +kernel
theorem dX10_rowOf_24 : decode cX10_rowOf 24 = .ok (.ireturn, 1) := by decide +kernel
set_option maxRecDepth 20000 in
theorem ggX10_goBack_X10_rows : GoodIn wsX10_goBack wsX10_rows := goodIn_r _ [6, 7, 24, 25, 26, 27, 28, 29, 30, 31, 32, 33, 34, 35, 36, 37, 38, 39, 40, 41, 42, 43, 44, 45, 46, 47, 48, 49] (by decide +kernel) (by decide +kernel)
set_option maxRecDepth 20000 in
theorem gX10_goBack_X10_rows : GoodIn wsX10_goBack (wsV RX10 82 RX10 yX10_rows wsX10_rows) := goodIn_app (goodIn_of _ (by decide +kernel)) ggX10_goBack_X10_rows
set_option maxRecDepth 20000 in
theorem ggX10_goBack_X10_rowOf : GoodIn wsX10_goBack wsX10_rowOf := goodIn_r _ [11, 7, 24, 25, 26, 27, 28, 29, 30, 31, 32, 33, 34, 35, 36, 37, 38, 39, 40, 41, 42, 43, 44, 45, 46, 47, 48, 49] (by decide +kernel) (by decide +kernel)
set_option maxRecDepth 20000 in
theorem gX10_goBack_X10_rowOf : GoodIn wsX10_goBack (wsV RX10 346 RX10 yX10_rowOf wsX10_rowOf) := goodIn_app (goodIn_of _ (by decide +kernel)) ggX10_goBack_X10_rowOf
set_option maxRecDepth 20000 in
theorem ggX10_goBack_X10_takeLine : GoodIn wsX10_goBack wsX10_takeLine := goodIn_r _ [15, 16, 7, 1, 2, 3, 4, 5, 6, 17, 18, 19, 20, 21, 22, 23, 24, 25, 26, 27, 28, 29, 30, 31, 32, 33, 34, 35, 36, 37, 38, 39, 40, 41, 42, 43, 44, 45, 46, 47, 48, 49] (by decide +kernel) (by decide +kernel)
set_option maxRecDepth 20000 in
theorem gX10_goBack_X10_takeLine : GoodIn wsX10_goBack (wsV RX10 319 RX10 yX10_takeLine wsX10_takeLine) := goodIn_app (goodIn_of _ (by decide +kernel)) ggX10_goBack_X10_takeLine
theorem dX10_goBack_0 : decode cX10_goBack 0 = .ok (.iconst 0, 1) := by decide +kernel
theorem dX10_goBack_1 : decode cX10_goBack 1 = .ok (.istore_n 1, 1) := by decide +kernel
theorem dX10_goBack_2 : decode cX10_goBack 2 = .ok (.iload_n 1, 1) := by decide +kernel
theorem dX10_goBack_3 : decode cX10_goBack 3 = .ok (.aload_n 0, 1) := by decide +kernel
theorem dX10_goBack_4 : decode cX10_goBack 4 = .ok (.invokevirtual 82, 3) := by decide +kernel
theorem dX10_goBack_7 : decode cX10_goBack 7 = .ok (.if_icmp .ge 20, 3) := by decide +kernel
theorem dX10_goBack_10 : decode cX10_goBack 10 = .ok (.aload_n 0, 1) := by decide +kernel
theorem dX10_goBack_11 : decode cX10_goBack 11 = .ok (.getfield 35, 3) := by decide +kernel
theorem dX10_goBack_14 : decode cX10_goBack 14 = .ok (.iload_n 1, 1) := by decide +kernel
theorem dX10_goBack_15 : decode cX10_goBack 15 = .ok (.aload_n 0, 1) := by decide +kernel
theorem dX10_goBack_16 : decode cX10_goBack 16 = .ok (.iload_n 1, 1) := by decide +kernel
theorem dX10_goBack_17 : decode cX10_goBack 17 = .ok (.invokevirtual 346, 3) := by decide +kernel
theorem dX10_goBack_20 : decode cX10_goBack 20 = .ok (.iastore, 1) := by decide +kernel
theorem dX10_goBack_21 : decode cX10_goBack 21 = .ok (.iinc 1 1, 3) := by decide +kernel
theorem dX10_goBack_24 : decode cX10_goBack 24 = .ok (.goto (-22), 3) := by decide +kernel
theorem dX10_goBack_27 : decode cX10_goBack 27 = .ok (.aload_n 0, 1) := by decide +kernel
theorem dX10_goBack_28 : decode cX10_goBack 28 = .ok (.invokevirtual 319, 3) := by decide +kernel
theorem dX10_goBack_31 : decode cX10_goBack 31 = .ok (.ireturn, 1) := by decide +kernel
set_option maxRecDepth 20000 in
theorem ggX10_restores_X10_change : GoodIn wsX10_restores wsX10_change := goodIn_r _ [6, 7, 8, 9, 5, 10, 11, 12, 13, 14, 15, 16, 17, 18, 44, 45, 46, 47, 48, 49, 50, 51, 52, 53, 54, 55, 56, 57, 58, 59, 60, 61, 62, 63, 64, 65, 66, 67, 68, 69] (by decide +kernel) (by decide +kernel)
set_option maxRecDepth 20000 in
theorem gX10_restores_X10_change : GoodIn wsX10_restores (wsV RX10 148 RX10 yX10_change wsX10_change) := goodIn_app (goodIn_of _ (by decide +kernel)) ggX10_restores_X10_change
set_option maxRecDepth 20000 in
theorem ggX10_restores_X10_goBack : GoodIn wsX10_restores wsX10_goBack := goodIn_r _ [22, 23, 24, 25, 26, 5, 27, 12, 28, 29, 30, 31, 32, 33, 34, 35, 36, 37, 38, 39, 40, 41, 42, 43, 44, 45, 46, 47, 48, 49, 50, 51, 52, 53, 54, 55, 56, 57, 58, 59, 60, 61, 62, 63, 64, 65, 66, 67, 68, 69] (by decide +kernel) (by decide +kernel)
set_option maxRecDepth 20000 in
theorem gX10_restores_X10_goBack : GoodIn wsX10_restores (wsV RX10 349 RX10 yX10_goBack wsX10_goBack) := goodIn_app (goodIn_of _ (by decide +kernel)) ggX10_restores_X10_goBack
theorem dX10_restores_0 : decode cX10_restores 0 = .ok (.aload_n 0, 1) := by decide +kernel
theorem dX10_restores_1 : decode cX10_restores 1 = .ok (.iconst 0, 1) := by decide +kernel
theorem dX10_restores_2 : decode cX10_restores 2 = .ok (.putfield 67, 3) := by decide +kernel
theorem dX10_restores_5 : decode cX10_restores 5 = .ok (.aload_n 0, 1) := by decide +kernel
theorem dX10_restores_6 : decode cX10_restores 6 = .ok (.invokevirtual 148, 3) := by decide +kernel
theorem dX10_restores_9 : decode cX10_restores 9 = .ok (.aload_n 0, 1) := by decide +kernel
theorem dX10_restores_10 : decode cX10_restores 10 = .ok (.invokevirtual 349, 3) := by decide +kernel
theorem dX10_restores_13 : decode cX10_restores 13 = .ok (.ireturn, 1) := by decide +kernel
set_option maxRecDepth 20000 in
theorem ggX10_tagged_X10_isRow : GoodIn wsX10_tagged wsX10_isRow := goodIn_r _ [6, 7, 8, 9, 5, 10, 11, 12, 13, 14, 19, 20, 21, 22, 23, 24, 25, 26, 27, 28, 29, 30, 31, 32, 33, 34, 35, 36, 37, 38, 39, 40, 41, 42, 43, 44] (by decide +kernel) (by decide +kernel)
set_option maxRecDepth 20000 in
theorem gX10_tagged_X10_isRow : GoodIn wsX10_tagged (wsV RX10 185 RX10 yX10_isRow wsX10_isRow) := goodIn_app (goodIn_of _ (by decide +kernel)) ggX10_tagged_X10_isRow
set_option maxRecDepth 20000 in
theorem ggX10_tagged_X10_rowOf : GoodIn wsX10_tagged wsX10_rowOf := goodIn_r _ [18, 11, 19, 20, 21, 22, 23, 24, 25, 26, 27, 28, 29, 30, 31, 32, 33, 34, 35, 36, 37, 38, 39, 40, 41, 42, 43, 44] (by decide +kernel) (by decide +kernel)
set_option maxRecDepth 20000 in
theorem gX10_tagged_X10_rowOf : GoodIn wsX10_tagged (wsV RX10 346 RX10 yX10_rowOf wsX10_rowOf) := goodIn_app (goodIn_of _ (by decide +kernel)) ggX10_tagged_X10_rowOf
theorem dX10_tagged_0 : decode cX10_tagged 0 = .ok (.aload_n 0, 1) := by decide +kernel
theorem dX10_tagged_1 : decode cX10_tagged 1 = .ok (.iconst 0, 1) := by decide +kernel
theorem dX10_tagged_2 : decode cX10_tagged 2 = .ok (.putfield 67, 3) := by decide +kernel
theorem dX10_tagged_5 : decode cX10_tagged 5 = .ok (.aload_n 0, 1) := by decide +kernel
theorem dX10_tagged_6 : decode cX10_tagged 6 = .ok (.iload_n 1, 1) := by decide +kernel
theorem dX10_tagged_7 : decode cX10_tagged 7 = .ok (.invokevirtual 185, 3) := by decide +kernel
theorem dX10_tagged_10 : decode cX10_tagged 10 = .ok (.ifCond .eq 11, 3) := by decide +kernel
theorem dX10_tagged_13 : decode cX10_tagged 13 = .ok (.aload_n 0, 1) := by decide +kernel
theorem dX10_tagged_14 : decode cX10_tagged 14 = .ok (.iload_n 1, 1) := by decide +kernel
theorem dX10_tagged_15 : decode cX10_tagged 15 = .ok (.invokevirtual 346, 3) := by decide +kernel
theorem dX10_tagged_18 : decode cX10_tagged 18 = .ok (.goto 4, 3) := by decide +kernel
theorem dX10_tagged_21 : decode cX10_tagged 21 = .ok (.iconst (-1), 1) := by decide +kernel
theorem dX10_tagged_22 : decode cX10_tagged 22 = .ok (.ireturn, 1) := by decide +kernel
set_option maxRecDepth 20000 in
theorem ggX10_readAct_X10_here : GoodIn wsX10_readAct wsX10_here := goodIn_r _ [7, 1, 8, 9, 30, 31, 32, 33, 34, 35, 36, 37, 38, 39, 40, 41, 42, 43, 44, 45, 46, 47, 48, 49, 50, 51, 52, 53, 54, 55] (by decide +kernel) (by decide +kernel)
set_option maxRecDepth 20000 in
theorem gX10_readAct_X10_here : GoodIn wsX10_readAct (wsV RX10 113 RX10 yX10_here wsX10_here) := goodIn_app (goodIn_of _ (by decide +kernel)) ggX10_readAct_X10_here
set_option maxRecDepth 20000 in
theorem ggX10_readAct_X10_fault : GoodIn wsX10_readAct wsX10_fault := goodIn_r _ [13, 14, 15, 16, 17, 6, 18, 30, 31, 32, 33, 34, 35, 36, 37, 38, 39, 40, 41, 42, 43, 44, 45, 46, 47, 48, 49, 50, 51, 52, 53, 54, 55] (by decide +kernel) (by decide +kernel)
set_option maxRecDepth 20000 in
theorem gX10_readAct_X10_fault : GoodIn wsX10_readAct (wsV RX10 116 RX10 yX10_fault wsX10_fault) := goodIn_app (goodIn_of _ (by decide +kernel)) ggX10_readAct_X10_fault
set_option maxRecDepth 20000 in
theorem ggX10_readAct_X10_oneOf : GoodIn wsX10_readAct wsX10_oneOf := goodIn_r _ [22, 1, 9, 15, 16, 17, 6, 18, 14, 3, 4, 5, 7, 8, 23, 24, 25, 10, 11, 12, 13, 30, 31, 32, 33, 34, 35, 36, 37, 38, 39, 40, 41, 42, 43, 44, 45, 46, 47, 48, 49, 50, 51, 52, 53, 54, 55] (by decide +kernel) (by decide +kernel)
set_option maxRecDepth 20000 in
theorem gX10_readAct_X10_oneOf : GoodIn wsX10_readAct (wsV RX10 120 RX10 yX10_oneOf wsX10_oneOf) := goodIn_app (goodIn_of _ (by decide +kernel)) ggX10_readAct_X10_oneOf
set_option maxRecDepth 20000 in
theorem ggX10_readAct_X10_twoDigits : GoodIn wsX10_readAct wsX10_twoDigits := goodIn_r _ [29, 19, 20, 21, 6, 22, 1, 9, 15, 16, 17, 18, 14, 3, 4, 5, 7, 8, 23, 24, 25, 10, 11, 12, 13, 30, 31, 32, 33, 34, 35, 36, 37, 38, 39, 40, 41, 42, 43, 44, 45, 46, 47, 48, 49, 50, 51, 52, 53, 54, 55] (by decide +kernel) (by decide +kernel)
set_option maxRecDepth 20000 in
theorem gX10_readAct_X10_twoDigits : GoodIn wsX10_readAct (wsV RX10 139 RX10 yX10_twoDigits wsX10_twoDigits) := goodIn_app (goodIn_of _ (by decide +kernel)) ggX10_readAct_X10_twoDigits
theorem dX10_readAct_0 : decode cX10_readAct 0 = .ok (.aload_n 0, 1) := by decide +kernel
theorem dX10_readAct_1 : decode cX10_readAct 1 = .ok (.invokevirtual 113, 3) := by decide +kernel
theorem dX10_readAct_4 : decode cX10_readAct 4 = .ok (.istore_n 2, 1) := by decide +kernel
theorem dX10_readAct_5 : decode cX10_readAct 5 = .ok (.iload_n 2, 1) := by decide +kernel
theorem dX10_readAct_6 : decode cX10_readAct 6 = .ok (.bipush 115, 2) := by decide +kernel
theorem dX10_readAct_8 : decode cX10_readAct 8 = .ok (.if_icmp .eq 36, 3) := by decide +kernel
theorem dX10_readAct_11 : decode cX10_readAct 11 = .ok (.iload_n 2, 1) := by decide +kernel
theorem dX10_readAct_12 : decode cX10_readAct 12 = .ok (.bipush 109, 2) := by decide +kernel
theorem dX10_readAct_14 : decode cX10_readAct 14 = .ok (.if_icmp .eq 30, 3) := by decide +kernel
theorem dX10_readAct_17 : decode cX10_readAct 17 = .ok (.iload_n 2, 1) := by decide +kernel
theorem dX10_readAct_18 : decode cX10_readAct 18 = .ok (.bipush 116, 2) := by decide +kernel
theorem dX10_readAct_20 : decode cX10_readAct 20 = .ok (.if_icmp .eq 24, 3) := by decide +kernel
theorem dX10_readAct_23 : decode cX10_readAct 23 = .ok (.iload_n 2, 1) := by decide +kernel
theorem dX10_readAct_24 : decode cX10_readAct 24 = .ok (.bipush 114, 2) := by decide +kernel
theorem dX10_readAct_26 : decode cX10_readAct 26 = .ok (.if_icmp .eq 18, 3) := by decide +kernel
theorem dX10_readAct_29 : decode cX10_readAct 29 = .ok (.iload_n 2, 1) := by decide +kernel
theorem dX10_readAct_30 : decode cX10_readAct 30 = .ok (.bipush 112, 2) := by decide +kernel
theorem dX10_readAct_32 : decode cX10_readAct 32 = .ok (.if_icmp .eq 12, 3) := by decide +kernel
theorem dX10_readAct_35 : decode cX10_readAct 35 = .ok (.aload_n 0, 1) := by decide +kernel
theorem dX10_readAct_36 : decode cX10_readAct 36 = .ok (.aload_n 0, 1) := by decide +kernel
theorem dX10_readAct_37 : decode cX10_readAct 37 = .ok (.getfield 103, 3) := by decide +kernel
theorem dX10_readAct_40 : decode cX10_readAct 40 = .ok (.invokevirtual 116, 3) := by decide +kernel
theorem dX10_readAct_43 : decode cX10_readAct 43 = .ok (.return_, 1) := by decide +kernel
theorem dX10_readAct_44 : decode cX10_readAct 44 = .ok (.aload_n 0, 1) := by decide +kernel
theorem dX10_readAct_45 : decode cX10_readAct 45 = .ok (.dup, 1) := by decide +kernel
theorem dX10_readAct_46 : decode cX10_readAct 46 = .ok (.getfield 103, 3) := by decide +kernel
theorem dX10_readAct_49 : decode cX10_readAct 49 = .ok (.iconst 1, 1) := by decide +kernel
theorem dX10_readAct_50 : decode cX10_readAct 50 = .ok (.iadd, 1) := by decide +kernel
theorem dX10_readAct_51 : decode cX10_readAct 51 = .ok (.putfield 103, 3) := by decide +kernel
theorem dX10_readAct_54 : decode cX10_readAct 54 = .ok (.aload_n 0, 1) := by decide +kernel
theorem dX10_readAct_55 : decode cX10_readAct 55 = .ok (.getfield 22, 3) := by decide +kernel
theorem dX10_readAct_58 : decode cX10_readAct 58 = .ok (.iload_n 1, 1) := by decide +kernel
theorem dX10_readAct_59 : decode cX10_readAct 59 = .ok (.iload_n 2, 1) := by decide +kernel
theorem dX10_readAct_60 : decode cX10_readAct 60 = .ok (.iastore, 1) := by decide +kernel
theorem dX10_readAct_61 : decode cX10_readAct 61 = .ok (.iload_n 2, 1) := by decide +kernel
theorem dX10_readAct_62 : decode cX10_readAct 62 = .ok (.bipush 114, 2) := by decide +kernel
theorem dX10_readAct_64 : decode cX10_readAct 64 = .ok (.if_icmp .ne 4, 3) := by decide +kernel
theorem dX10_readAct_67 : decode cX10_readAct 67 = .ok (.return_, 1) := by decide +kernel
theorem dX10_readAct_68 : decode cX10_readAct 68 = .ok (.aload_n 0, 1) := by decide +kernel
theorem dX10_readAct_69 : decode cX10_readAct 69 = .ok (.getfield 22, 3) := by decide +kernel
theorem dX10_readAct_72 : decode cX10_readAct 72 = .ok (.iload_n 1, 1) := by decide +kernel
theorem dX10_readAct_73 : decode cX10_readAct 73 = .ok (.iconst 1, 1) := by decide +kernel
theorem dX10_readAct_74 : decode cX10_readAct 74 = .ok (.iadd, 1) := by decide +kernel
theorem dX10_readAct_75 : decode cX10_readAct 75 = .ok (.iload_n 2, 1) := by decide +kernel
theorem dX10_readAct_76 : decode cX10_readAct 76 = .ok (.bipush 112, 2) := by decide +kernel
theorem dX10_readAct_78 : decode cX10_readAct 78 = .ok (.if_icmp .ne 14, 3) := by decide +kernel
theorem dX10_readAct_81 : decode cX10_readAct 81 = .ok (.aload_n 0, 1) := by decide +kernel
theorem dX10_readAct_82 : decode cX10_readAct 82 = .ok (.bipush 97, 2) := by decide +kernel
theorem dX10_readAct_84 : decode cX10_readAct 84 = .ok (.bipush 6, 2) := by decide +kernel
theorem dX10_readAct_86 : decode cX10_readAct 86 = .ok (.invokevirtual 120, 3) := by decide +kernel
theorem dX10_readAct_89 : decode cX10_readAct 89 = .ok (.goto 7, 3) := by decide +kernel
theorem dX10_readAct_92 : decode cX10_readAct 92 = .ok (.aload_n 0, 1) := by decide +kernel
theorem dX10_readAct_93 : decode cX10_readAct 93 = .ok (.invokevirtual 139, 3) := by decide +kernel
theorem dX10_readAct_96 : decode cX10_readAct 96 = .ok (.iastore, 1) := by decide +kernel
theorem dX10_readAct_97 : decode cX10_readAct 97 = .ok (.iload_n 2, 1) := by decide +kernel
theorem dX10_readAct_98 : decode cX10_readAct 98 = .ok (.bipush 116, 2) := by decide +kernel
theorem dX10_readAct_100 : decode cX10_readAct 100 = .ok (.if_icmp .eq 15, 3) := by decide +kernel
theorem dX10_readAct_103 : decode cX10_readAct 103 = .ok (.aload_n 0, 1) := by decide +kernel
theorem dX10_readAct_104 : decode cX10_readAct 104 = .ok (.getfield 22, 3) := by decide +kernel
theorem dX10_readAct_107 : decode cX10_readAct 107 = .ok (.iload_n 1, 1) := by decide +kernel
theorem dX10_readAct_108 : decode cX10_readAct 108 = .ok (.iconst 2, 1) := by decide +kernel
theorem dX10_readAct_109 : decode cX10_readAct 109 = .ok (.iadd, 1) := by decide +kernel
theorem dX10_readAct_110 : decode cX10_readAct 110 = .ok (.aload_n 0, 1) := by decide +kernel
theorem dX10_readAct_111 : decode cX10_readAct 111 = .ok (.invokevirtual 139, 3) := by decide +kernel
theorem dX10_readAct_114 : decode cX10_readAct 114 = .ok (.iastore, 1) := by decide +kernel
theorem dX10_readAct_115 : decode cX10_readAct 115 = .ok (.iload_n 2, 1) := by decide +kernel
theorem dX10_readAct_116 : decode cX10_readAct 116 = .ok (.bipush 112, 2) := by decide +kernel
theorem dX10_readAct_118 : decode cX10_readAct 118 = .ok (.if_icmp .eq 4, 3) := by decide +kernel
theorem dX10_readAct_121 : decode cX10_readAct 121 = .ok (.return_, 1) := by decide +kernel
theorem dX10_readAct_122 : decode cX10_readAct 122 = .ok (.aload_n 0, 1) := by decide +kernel
theorem dX10_readAct_123 : decode cX10_readAct 123 = .ok (.getfield 22, 3) := by decide +kernel
theorem dX10_readAct_126 : decode cX10_readAct 126 = .ok (.iload_n 1, 1) := by decide +kernel
theorem dX10_readAct_127 : decode cX10_readAct 127 = .ok (.iconst 3, 1) := by decide +kernel
theorem dX10_readAct_128 : decode cX10_readAct 128 = .ok (.iadd, 1) := by decide +kernel
theorem dX10_readAct_129 : decode cX10_readAct 129 = .ok (.aload_n 0, 1) := by decide +kernel
theorem dX10_readAct_130 : decode cX10_readAct 130 = .ok (.invokevirtual 139, 3) := by decide +kernel
theorem dX10_readAct_133 : decode cX10_readAct 133 = .ok (.iastore, 1) := by decide +kernel
theorem dX10_readAct_134 : decode cX10_readAct 134 = .ok (.aload_n 0, 1) := by decide +kernel
theorem dX10_readAct_135 : decode cX10_readAct 135 = .ok (.getfield 22, 3) := by decide +kernel
theorem dX10_readAct_138 : decode cX10_readAct 138 = .ok (.iload_n 1, 1) := by decide +kernel
theorem dX10_readAct_139 : decode cX10_readAct 139 = .ok (.iconst 4, 1) := by decide +kernel
theorem dX10_readAct_140 : decode cX10_readAct 140 = .ok (.iadd, 1) := by decide +kernel
theorem dX10_readAct_141 : decode cX10_readAct 141 = .ok (.aload_n 0, 1) := by decide +kernel
theorem dX10_readAct_142 : decode cX10_readAct 142 = .ok (.invokevirtual 139, 3) := by decide +kernel
theorem dX10_readAct_145 : decode cX10_readAct 145 = .ok (.iastore, 1) := by decide +kernel
theorem dX10_readAct_146 : decode cX10_readAct 146 = .ok (.return_, 1) := by decide +kernel
set_option maxRecDepth 20000 in
theorem ggX10_act_X10_goBack : GoodIn wsX10_act wsX10_goBack := goodIn_r _ [6, 7, 8, 9, 10, 5, 11, 12, 13, 14, 15, 16, 17, 18, 19, 20, 21, 22, 23, 24, 25, 26, 27, 28, 212, 213, 214, 215, 216, 217, 218, 219, 220, 221, 222, 223, 224, 225, 226, 227, 228, 229, 230, 231, 232, 233, 234, 235, 236, 237] (by decide +kernel) (by decide +kernel)
set_option maxRecDepth 20000 in
theorem gX10_act_X10_goBack : GoodIn wsX10_act (wsV RX10 349 RX10 yX10_goBack wsX10_goBack) := goodIn_app (goodIn_of _ (by decide +kernel)) ggX10_act_X10_goBack
set_option maxRecDepth 20000 in
theorem ggX10_act_X10_in : GoodIn wsX10_act wsX10_in := goodIn_r _ [31] (by decide +kernel) (by decide +kernel)
set_option maxRecDepth 20000 in
theorem gX10_act_X10_in : GoodIn wsX10_act (va_wsS RX10 78 yX10_in wsX10_in) := goodIn_app (goodIn_of _ (by decide +kernel)) ggX10_act_X10_in
set_option maxRecDepth 20000 in
theorem ggX10_act_X10_goTours : GoodIn wsX10_act wsX10_goTours := goodIn_r _ [35, 36, 37, 38, 39, 5, 40, 7, 8, 9, 10, 11, 12, 41, 42, 43, 44, 45, 46, 47, 48, 22, 23, 24, 25, 49, 50, 51, 52, 53, 54, 55, 56, 29, 30, 31, 57, 58, 59, 60, 61, 62, 63, 64, 65, 66, 67, 68, 69, 70, 71, 72, 26, 27, 28, 73, 74, 75, 76, 77, 78, 79, 80, 81, 82, 83, 84, 85, 86, 87, 88, 89, 90, 91, 92, 93, 94, 95, 96, 97, 98, 99, 100, 101, 102, 103, 104, 105, 106, 107, 108, 109, 110, 111, 112, 113, 114, 115, 116, 117, 118, 119, 17, 18, 19, 20, 21, 212, 213, 214, 215, 216, 217, 218, 219, 220, 221, 222, 223, 224, 225, 226, 227, 228, 229, 230, 231, 232, 233, 234, 235, 236, 237] (by decide +kernel) (by decide +kernel)
set_option maxRecDepth 20000 in
theorem gX10_act_X10_goTours : GoodIn wsX10_act (wsV RX10 328 RX10 yX10_goTours wsX10_goTours) := goodIn_app (goodIn_of _ (by decide +kernel)) ggX10_act_X10_goTours
set_option maxRecDepth 20000 in
theorem ggX10_act_X10_isColumn : GoodIn wsX10_act wsX10_isColumn := goodIn_r _ [56, 22, 23, 24, 5, 25, 12, 29, 30, 31, 212, 213, 214, 215, 216, 217, 218, 219, 220, 221, 222, 223, 224, 225, 226, 227, 228, 229, 230, 231, 232, 233, 234, 235, 236, 237] (by decide +kernel) (by decide +kernel)
set_option maxRecDepth 20000 in
theorem gX10_act_X10_isColumn : GoodIn wsX10_act (wsV RX10 85 RX10 yX10_isColumn wsX10_isColumn) := goodIn_app (goodIn_of _ (by decide +kernel)) ggX10_act_X10_isColumn
set_option maxRecDepth 20000 in
theorem ggX10_act_X10_isWay : GoodIn wsX10_act wsX10_isWay := goodIn_r _ [122, 29, 30, 5, 31] (by decide +kernel) (by decide +kernel)
set_option maxRecDepth 20000 in
theorem gX10_act_X10_isWay : GoodIn wsX10_act (va_wsS RX10 151 yX10_isWay wsX10_isWay) := goodIn_app (goodIn_of _ (by decide +kernel)) ggX10_act_X10_isWay
set_option maxRecDepth 20000 in
theorem ggX10_act_X10_puts : GoodIn wsX10_act wsX10_puts := goodIn_r _ [126, 57, 58, 59, 5, 60, 12, 127, 128, 129, 130, 131, 132, 133, 134, 135, 136, 137, 138, 139, 140, 141, 142, 143, 144, 145, 146, 147, 148, 149, 8, 9, 10, 11, 29, 30, 31, 150, 151, 152, 77, 153, 154, 155, 156, 157, 158, 159, 160, 161, 162, 163, 164, 165, 166, 167, 168, 169, 85, 170, 171, 172, 173, 174, 175, 176, 177, 178, 179, 180, 89, 181, 182, 183, 184, 185, 186, 187, 188, 26, 27, 28, 189, 190, 191, 82, 83, 84, 212, 213, 214, 215, 216, 217, 218, 219, 220, 221, 222, 223, 224, 225, 226, 227, 228, 229, 230, 231, 232, 233, 234, 235, 236, 237] (by decide +kernel) (by decide +kernel)
set_option maxRecDepth 20000 in
theorem gX10_act_X10_puts : GoodIn wsX10_act (wsV RX10 154 RX10 yX10_puts wsX10_puts) := goodIn_app (goodIn_of _ (by decide +kernel)) ggX10_act_X10_puts
set_option maxRecDepth 20000 in
theorem ggX10_act_X10_refusesTwo : GoodIn wsX10_act wsX10_refusesTwo := goodIn_r _ [195, 146, 147, 148, 5, 149, 8, 9, 10, 11, 12, 29, 30, 31, 212, 213, 214, 215, 216, 217, 218, 219, 220, 221, 222, 223, 224, 225, 226, 227, 228, 229, 230, 231, 232, 233, 234, 235, 236, 237] (by decide +kernel) (by decide +kernel)
set_option maxRecDepth 20000 in
theorem gX10_act_X10_refusesTwo : GoodIn wsX10_act (wsV RX10 340 RX10 yX10_refusesTwo wsX10_refusesTwo) := goodIn_app (goodIn_of _ (by decide +kernel)) ggX10_act_X10_refusesTwo
set_option maxRecDepth 20000 in
theorem ggX10_act_X10_arrange : GoodIn wsX10_act wsX10_arrange := goodIn_r _ [199, 200, 201, 202, 5, 203, 37, 38, 39, 40, 7, 8, 9, 10, 11, 12, 41, 42, 43, 44, 45, 46, 47, 48, 22, 23, 24, 25, 49, 50, 51, 52, 53, 54, 55, 56, 29, 30, 31, 57, 58, 59, 60, 61, 62, 63, 64, 65, 66, 67, 68, 69, 70, 71, 72, 26, 27, 28, 73, 74, 75, 76, 77, 78, 79, 80, 81, 82, 83, 84, 85, 86, 87, 88, 89, 103, 104, 105, 106, 107, 108, 109, 110, 204, 205, 206, 207, 208, 209, 210, 211, 17, 18, 19, 20, 21, 212, 213, 214, 215, 216, 217, 218, 219, 220, 221, 222, 223, 224, 225, 226, 227, 228, 229, 230, 231, 232, 233, 234, 235, 236, 237] (by decide +kernel) (by decide +kernel)
set_option maxRecDepth 20000 in
theorem gX10_act_X10_arrange : GoodIn wsX10_act (wsV RX10 343 RX10 yX10_arrange wsX10_arrange) := goodIn_app (goodIn_of _ (by decide +kernel)) ggX10_act_X10_arrange
theorem dX10_act_0 : decode cX10_act 0 = .ok (.aload_n 0, 1) := by decide +kernel
theorem dX10_act_1 : decode cX10_act 1 = .ok (.getfield 22, 3) := by decide +kernel
theorem dX10_act_4 : decode cX10_act 4 = .ok (.iload_n 1, 1) := by decide +kernel
theorem dX10_act_5 : decode cX10_act 5 = .ok (.iconst 1, 1) := by decide +kernel
theorem dX10_act_6 : decode cX10_act 6 = .ok (.iadd, 1) := by decide +kernel
theorem dX10_act_7 : decode cX10_act 7 = .ok (.iaload, 1) := by decide +kernel
theorem dX10_act_8 : decode cX10_act 8 = .ok (.istore_n 2, 1) := by decide +kernel
theorem dX10_act_9 : decode cX10_act 9 = .ok (.aload_n 0, 1) := by decide +kernel
theorem dX10_act_10 : decode cX10_act 10 = .ok (.getfield 22, 3) := by decide +kernel
theorem dX10_act_13 : decode cX10_act 13 = .ok (.iload_n 1, 1) := by decide +kernel
theorem dX10_act_14 : decode cX10_act 14 = .ok (.iconst 2, 1) := by decide +kernel
theorem dX10_act_15 : decode cX10_act 15 = .ok (.iadd, 1) := by decide +kernel
theorem dX10_act_16 : decode cX10_act 16 = .ok (.iaload, 1) := by decide +kernel
theorem dX10_act_17 : decode cX10_act 17 = .ok (.istore_n 3, 1) := by decide +kernel
theorem dX10_act_18 : decode cX10_act 18 = .ok (.aload_n 0, 1) := by decide +kernel
theorem dX10_act_19 : decode cX10_act 19 = .ok (.getfield 22, 3) := by decide +kernel
theorem dX10_act_22 : decode cX10_act 22 = .ok (.iload_n 1, 1) := by decide +kernel
theorem dX10_act_23 : decode cX10_act 23 = .ok (.iaload, 1) := by decide +kernel
theorem dX10_act_24 : decode cX10_act 24 = .ok (.tableswitch 126 112 116 #[73, 126, 36, 126, 49], 36) := by decide +kernel
theorem dX10_act_60 : decode cX10_act 60 = .ok (.aload_n 0, 1) := by decide +kernel
theorem dX10_act_61 : decode cX10_act 61 = .ok (.invokevirtual 349, 3) := by decide +kernel
theorem dX10_act_64 : decode cX10_act 64 = .ok (.ifCond .lt 7, 3) := by decide +kernel
theorem dX10_act_67 : decode cX10_act 67 = .ok (.iconst 1, 1) := by decide +kernel
theorem dX10_act_68 : decode cX10_act 68 = .ok (.goto 4, 3) := by decide +kernel
theorem dX10_act_71 : decode cX10_act 71 = .ok (.iconst 0, 1) := by decide +kernel
theorem dX10_act_72 : decode cX10_act 72 = .ok (.ireturn, 1) := by decide +kernel
theorem dX10_act_73 : decode cX10_act 73 = .ok (.iload_n 2, 1) := by decide +kernel
theorem dX10_act_74 : decode cX10_act 74 = .ok (.iconst 2, 1) := by decide +kernel
theorem dX10_act_75 : decode cX10_act 75 = .ok (.bipush 16, 2) := by decide +kernel
theorem dX10_act_77 : decode cX10_act 77 = .ok (.invokestatic 78, 3) := by decide +kernel
theorem dX10_act_80 : decode cX10_act 80 = .ok (.ifCond .eq 15, 3) := by decide +kernel
theorem dX10_act_83 : decode cX10_act 83 = .ok (.aload_n 0, 1) := by decide +kernel
theorem dX10_act_84 : decode cX10_act 84 = .ok (.iload_n 2, 1) := by decide +kernel
theorem dX10_act_85 : decode cX10_act 85 = .ok (.invokevirtual 328, 3) := by decide +kernel
theorem dX10_act_88 : decode cX10_act 88 = .ok (.ifCond .lt 7, 3) := by decide +kernel
theorem dX10_act_91 : decode cX10_act 91 = .ok (.iconst 1, 1) := by decide +kernel
theorem dX10_act_92 : decode cX10_act 92 = .ok (.goto 4, 3) := by decide +kernel
theorem dX10_act_95 : decode cX10_act 95 = .ok (.iconst 0, 1) := by decide +kernel
theorem dX10_act_96 : decode cX10_act 96 = .ok (.ireturn, 1) := by decide +kernel
theorem dX10_act_97 : decode cX10_act 97 = .ok (.aload_n 0, 1) := by decide +kernel
theorem dX10_act_98 : decode cX10_act 98 = .ok (.iload_n 2, 1) := by decide +kernel
theorem dX10_act_99 : decode cX10_act 99 = .ok (.invokevirtual 85, 3) := by decide +kernel
theorem dX10_act_102 : decode cX10_act 102 = .ok (.ifCond .eq 46, 3) := by decide +kernel
theorem dX10_act_105 : decode cX10_act 105 = .ok (.aload_n 0, 1) := by decide +kernel
theorem dX10_act_106 : decode cX10_act 106 = .ok (.getfield 22, 3) := by decide +kernel
theorem dX10_act_109 : decode cX10_act 109 = .ok (.iload_n 1, 1) := by decide +kernel
theorem dX10_act_110 : decode cX10_act 110 = .ok (.iconst 3, 1) := by decide +kernel
theorem dX10_act_111 : decode cX10_act 111 = .ok (.iadd, 1) := by decide +kernel
theorem dX10_act_112 : decode cX10_act 112 = .ok (.iaload, 1) := by decide +kernel
theorem dX10_act_113 : decode cX10_act 113 = .ok (.invokestatic 151, 3) := by decide +kernel
theorem dX10_act_116 : decode cX10_act 116 = .ok (.ifCond .eq 32, 3) := by decide +kernel
theorem dX10_act_119 : decode cX10_act 119 = .ok (.aload_n 0, 1) := by decide +kernel
theorem dX10_act_120 : decode cX10_act 120 = .ok (.iload_n 2, 1) := by decide +kernel
theorem dX10_act_121 : decode cX10_act 121 = .ok (.iload_n 3, 1) := by decide +kernel
theorem dX10_act_122 : decode cX10_act 122 = .ok (.aload_n 0, 1) := by decide +kernel
theorem dX10_act_123 : decode cX10_act 123 = .ok (.getfield 22, 3) := by decide +kernel
theorem dX10_act_126 : decode cX10_act 126 = .ok (.iload_n 1, 1) := by decide +kernel
theorem dX10_act_127 : decode cX10_act 127 = .ok (.iconst 3, 1) := by decide +kernel
theorem dX10_act_128 : decode cX10_act 128 = .ok (.iadd, 1) := by decide +kernel
theorem dX10_act_129 : decode cX10_act 129 = .ok (.iaload, 1) := by decide +kernel
theorem dX10_act_130 : decode cX10_act 130 = .ok (.aload_n 0, 1) := by decide +kernel
theorem dX10_act_131 : decode cX10_act 131 = .ok (.getfield 22, 3) := by decide +kernel
theorem dX10_act_134 : decode cX10_act 134 = .ok (.iload_n 1, 1) := by decide +kernel
theorem dX10_act_135 : decode cX10_act 135 = .ok (.iconst 4, 1) := by decide +kernel
theorem dX10_act_136 : decode cX10_act 136 = .ok (.iadd, 1) := by decide +kernel
theorem dX10_act_137 : decode cX10_act 137 = .ok (.iaload, 1) := by decide +kernel
theorem dX10_act_138 : decode cX10_act 138 = .ok (.invokevirtual 154, 3) := by decide +kernel
theorem dX10_act_141 : decode cX10_act 141 = .ok (.ifCond .ne 7, 3) := by decide +kernel
theorem dX10_act_144 : decode cX10_act 144 = .ok (.iconst 1, 1) := by decide +kernel
theorem dX10_act_145 : decode cX10_act 145 = .ok (.goto 4, 3) := by decide +kernel
theorem dX10_act_148 : decode cX10_act 148 = .ok (.iconst 0, 1) := by decide +kernel
theorem dX10_act_149 : decode cX10_act 149 = .ok (.ireturn, 1) := by decide +kernel
theorem dX10_act_150 : decode cX10_act 150 = .ok (.aload_n 0, 1) := by decide +kernel
theorem dX10_act_151 : decode cX10_act 151 = .ok (.iload_n 2, 1) := by decide +kernel
theorem dX10_act_152 : decode cX10_act 152 = .ok (.iload_n 3, 1) := by decide +kernel
theorem dX10_act_153 : decode cX10_act 153 = .ok (.invokevirtual 340, 3) := by decide +kernel
theorem dX10_act_156 : decode cX10_act 156 = .ok (.ifCond .ne 34, 3) := by decide +kernel
theorem dX10_act_159 : decode cX10_act 159 = .ok (.aload_n 0, 1) := by decide +kernel
theorem dX10_act_160 : decode cX10_act 160 = .ok (.iload_n 2, 1) := by decide +kernel
theorem dX10_act_161 : decode cX10_act 161 = .ok (.iload_n 3, 1) := by decide +kernel
theorem dX10_act_162 : decode cX10_act 162 = .ok (.aload_n 0, 1) := by decide +kernel
theorem dX10_act_163 : decode cX10_act 163 = .ok (.getfield 22, 3) := by decide +kernel
theorem dX10_act_166 : decode cX10_act 166 = .ok (.iload_n 1, 1) := by decide +kernel
theorem dX10_act_167 : decode cX10_act 167 = .ok (.iaload, 1) := by decide +kernel
theorem dX10_act_168 : decode cX10_act 168 = .ok (.bipush 109, 2) := by decide +kernel
theorem dX10_act_170 : decode cX10_act 170 = .ok (.if_icmp .ne 7, 3) := by decide +kernel
theorem dX10_act_173 : decode cX10_act 173 = .ok (.iconst 1, 1) := by decide +kernel
theorem dX10_act_174 : decode cX10_act 174 = .ok (.goto 4, 3) := by decide +kernel
theorem dX10_act_177 : decode cX10_act 177 = .ok (.iconst 0, 1) := by decide +kernel
theorem dX10_act_178 : decode cX10_act 178 = .ok (.invokevirtual 343, 3) := by decide +kernel
theorem dX10_act_181 : decode cX10_act 181 = .ok (.bipush 120, 2) := by decide +kernel
theorem dX10_act_183 : decode cX10_act 183 = .ok (.if_icmp .ge 7, 3) := by decide +kernel
theorem dX10_act_186 : decode cX10_act 186 = .ok (.iconst 1, 1) := by decide +kernel
theorem dX10_act_187 : decode cX10_act 187 = .ok (.goto 4, 3) := by decide +kernel
theorem dX10_act_190 : decode cX10_act 190 = .ok (.iconst 0, 1) := by decide +kernel
theorem dX10_act_191 : decode cX10_act 191 = .ok (.ireturn, 1) := by decide +kernel
set_option maxRecDepth 20000 in
theorem ggX10_day_X10_begin : GoodIn wsX10_day wsX10_begin := goodIn_r _ [10, 11, 3, 2, 4, 265, 266, 267, 268, 269, 270, 271, 272, 273, 274, 275, 276, 277, 278, 279, 280, 281, 282, 283, 284, 285, 286, 287, 288, 289, 290] (by decide +kernel) (by decide +kernel)
set_option maxRecDepth 20000 in
theorem gX10_day_X10_begin : GoodIn wsX10_day (wsV RX10 136 RX10 yX10_begin wsX10_begin) := goodIn_app (goodIn_of _ (by decide +kernel)) ggX10_day_X10_begin
set_option maxRecDepth 20000 in
theorem ggX10_day_X10_fine : GoodIn wsX10_day wsX10_fine := goodIn_r _ [15, 4, 265, 266, 267, 268, 269, 270, 271, 272, 273, 274, 275, 276, 277, 278, 279, 280, 281, 282, 283, 284, 285, 286, 287, 288, 289, 290] (by decide +kernel) (by decide +kernel)
set_option maxRecDepth 20000 in
theorem gX10_day_X10_fine : GoodIn wsX10_day (wsV RX10 109 RX10 yX10_fine wsX10_fine) := goodIn_app (goodIn_of _ (by decide +kernel)) ggX10_day_X10_fine
set_option maxRecDepth 20000 in
theorem ggX10_day_X10_readAct : GoodIn wsX10_day wsX10_readAct := goodIn_r _ [19, 2, 20, 21, 22, 23, 9, 24, 3, 25, 26, 27, 28, 29, 4, 12, 13, 14, 15, 30, 31, 32, 33, 34, 35, 36, 37, 38, 39, 40, 265, 266, 267, 268, 269, 270, 271, 272, 273, 274, 275, 276, 277, 278, 279, 280, 281, 282, 283, 284, 285, 286, 287, 288, 289, 290] (by decide +kernel) (by decide +kernel)
set_option maxRecDepth 20000 in
theorem gX10_day_X10_readAct : GoodIn wsX10_day (wsV RX10 352 RX10 yX10_readAct wsX10_readAct) := goodIn_app (goodIn_of _ (by decide +kernel)) ggX10_day_X10_readAct
set_option maxRecDepth 20000 in
theorem ggX10_day_X10_wasRight : GoodIn wsX10_day wsX10_wasRight := goodIn_r _ [44, 2, 3, 26, 27, 28, 9, 29, 4, 12, 13, 14, 15, 265, 266, 267, 268, 269, 270, 271, 272, 273, 274, 275, 276, 277, 278, 279, 280, 281, 282, 283, 284, 285, 286, 287, 288, 289, 290] (by decide +kernel) (by decide +kernel)
set_option maxRecDepth 20000 in
theorem gX10_day_X10_wasRight : GoodIn wsX10_day (wsV RX10 145 RX10 yX10_wasRight wsX10_wasRight) := goodIn_app (goodIn_of _ (by decide +kernel)) ggX10_day_X10_wasRight
set_option maxRecDepth 20000 in
theorem ggX10_day_X10_lay : GoodIn wsX10_day wsX10_lay := goodIn_r _ [48, 49, 50, 265, 266, 267, 268, 269, 270, 271, 272, 273, 274, 275, 276, 277, 278, 279, 280, 281, 282, 283, 284, 285, 286, 287, 288, 289, 290] (by decide +kernel) (by decide +kernel)
set_option maxRecDepth 20000 in
theorem gX10_day_X10_lay : GoodIn wsX10_day (wsV RX10 224 RX10 yX10_lay wsX10_lay) := goodIn_app (goodIn_of _ (by decide +kernel)) ggX10_day_X10_lay
set_option maxRecDepth 20000 in
theorem ggX10_day_X10_act : GoodIn wsX10_day wsX10_act := goodIn_r _ [54, 20, 55, 56, 57, 9, 58, 59, 60, 61, 62, 63, 50, 64, 65, 66, 67, 68, 69, 70, 71, 72, 73, 74, 75, 76, 77, 78, 79, 34, 35, 36, 80, 81, 82, 83, 5, 84, 85, 86, 87, 88, 89, 90, 91, 92, 93, 94, 95, 96, 97, 98, 99, 100, 101, 102, 103, 104, 105, 106, 107, 108, 109, 110, 111, 112, 113, 114, 115, 116, 117, 118, 119, 120, 121, 122, 123, 124, 125, 126, 127, 128, 129, 130, 131, 132, 133, 134, 135, 136, 137, 138, 139, 140, 141, 142, 143, 144, 145, 146, 147, 148, 149, 150, 151, 152, 153, 154, 155, 156, 157, 158, 159, 160, 161, 162, 163, 164, 165, 166, 167, 168, 169, 170, 171, 172, 173, 174, 175, 176, 177, 178, 179, 180, 181, 182, 183, 184, 185, 186, 187, 188, 189, 190, 191, 192, 193, 194, 195, 196, 197, 198, 199, 200, 201, 202, 203, 204, 205, 206, 207, 208, 209, 210, 211, 212, 213, 214, 215, 216, 217, 218, 219, 220, 221, 222, 223, 224, 225, 226, 227, 228, 229, 230, 231, 232, 233, 234, 235, 236, 237, 238, 239, 240, 241, 242, 243, 244, 245, 246, 247, 248, 249, 250, 251, 252, 253, 254, 255, 256, 257, 258, 265, 266, 267, 268, 269, 270, 271, 272, 273, 274, 275, 276, 277, 278, 279, 280, 281, 282, 283, 284, 285, 286, 287, 288, 289, 290] (by decide +kernel) (by decide +kernel)
set_option maxRecDepth 20000 in
theorem gX10_day_X10_act : GoodIn wsX10_day (wsV RX10 355 RX10 yX10_act wsX10_act) := goodIn_app (goodIn_of _ (by decide +kernel)) ggX10_day_X10_act
set_option maxRecDepth 20000 in
theorem ggX10_day_X10_note : GoodIn wsX10_day wsX10_note := goodIn_r _ [262, 263, 264, 49, 265, 266, 267, 268, 269, 270, 271, 272, 273, 274, 275, 276, 277, 278, 279, 280, 281, 282, 283, 284, 285, 286, 287, 288, 289, 290] (by decide +kernel) (by decide +kernel)
set_option maxRecDepth 20000 in
theorem gX10_day_X10_note : GoodIn wsX10_day (wsV RX10 227 RX10 yX10_note wsX10_note) := goodIn_app (goodIn_of _ (by decide +kernel)) ggX10_day_X10_note
set_option maxRecDepth 20000 in
theorem ggX10_day_X10_runsNow : GoodIn wsX10_day wsX10_runsNow := goodIn_r _ [250, 84, 85, 86, 9, 87, 59, 60, 61, 62, 63, 50, 88, 89, 90, 91, 92, 93, 94, 95, 73, 74, 75, 76, 96, 97, 98, 99, 100, 101, 102, 103, 34, 35, 36, 104, 105, 106, 107, 108, 109, 110, 111, 112, 113, 114, 115, 116, 117, 118, 119, 77, 78, 79, 120, 121, 122, 123, 124, 125, 126, 127, 128, 129, 130, 131, 132, 133, 134, 135, 136, 150, 151, 152, 153, 154, 155, 156, 157, 265, 266, 267, 268, 269, 270, 271, 272, 273, 274, 275, 276, 277, 278, 279, 280, 281, 282, 283, 284, 285, 286, 287, 288, 289, 290] (by decide +kernel) (by decide +kernel)
set_option maxRecDepth 20000 in
theorem gX10_day_X10_runsNow : GoodIn wsX10_day (wsV RX10 288 RX10 yX10_runsNow wsX10_runsNow) := goodIn_app (goodIn_of _ (by decide +kernel)) ggX10_day_X10_runsNow
set_option maxRecDepth 20000 in
theorem ggX10_day_X10_tell : GoodIn wsX10_day wsX10_tell := goodIn_r _ [165, 166, 5, 265, 266, 267, 268, 269, 270, 271, 272, 273, 274, 275, 276, 277, 278, 279, 280, 281, 282, 283, 284, 285, 286, 287, 288, 289, 290] (by decide +kernel) (by decide +kernel)
set_option maxRecDepth 20000 in
theorem gX10_day_X10_tell : GoodIn wsX10_day (wsV RX10 237 RX10 yX10_tell wsX10_tell) := goodIn_app (goodIn_of _ (by decide +kernel)) ggX10_day_X10_tell
theorem dX10_day_0 : decode cX10_day 0 = .ok (.aload_n 0, 1) := by decide +kernel
theorem dX10_day_1 : decode cX10_day 1 = .ok (.iconst 0, 1) := by decide +kernel
theorem dX10_day_2 : decode cX10_day 2 = .ok (.putfield 67, 3) := by decide +kernel
theorem dX10_day_5 : decode cX10_day 5 = .ok (.aload_n 0, 1) := by decide +kernel
theorem dX10_day_6 : decode cX10_day 6 = .ok (.invokevirtual 136, 3) := by decide +kernel
theorem dX10_day_9 : decode cX10_day 9 = .ok (.iconst 0, 1) := by decide +kernel
theorem dX10_day_10 : decode cX10_day 10 = .ok (.istore_n 1, 1) := by decide +kernel
theorem dX10_day_11 : decode cX10_day 11 = .ok (.aload_n 0, 1) := by decide +kernel
theorem dX10_day_12 : decode cX10_day 12 = .ok (.invokevirtual 109, 3) := by decide +kernel
theorem dX10_day_15 : decode cX10_day 15 = .ok (.ifCond .eq 27, 3) := by decide +kernel
theorem dX10_day_18 : decode cX10_day 18 = .ok (.aload_n 0, 1) := by decide +kernel
theorem dX10_day_19 : decode cX10_day 19 = .ok (.getfield 103, 3) := by decide +kernel
theorem dX10_day_22 : decode cX10_day 22 = .ok (.aload_n 0, 1) := by decide +kernel
theorem dX10_day_23 : decode cX10_day 23 = .ok (.getfield 100, 3) := by decide +kernel
theorem dX10_day_26 : decode cX10_day 26 = .ok (.if_icmp .ge 16, 3) := by decide +kernel
theorem dX10_day_29 : decode cX10_day 29 = .ok (.aload_n 0, 1) := by decide +kernel
theorem dX10_day_30 : decode cX10_day 30 = .ok (.iconst 5, 1) := by decide +kernel
theorem dX10_day_31 : decode cX10_day 31 = .ok (.iload_n 1, 1) := by decide +kernel
theorem dX10_day_32 : decode cX10_day 32 = .ok (.imul, 1) := by decide +kernel
theorem dX10_day_33 : decode cX10_day 33 = .ok (.invokevirtual 352, 3) := by decide +kernel
theorem dX10_day_36 : decode cX10_day 36 = .ok (.iinc 1 1, 3) := by decide +kernel
