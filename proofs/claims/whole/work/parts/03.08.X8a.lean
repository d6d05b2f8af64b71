theorem dX8_init_0 : decode cX8_init 0 = .ok (.aload_n 0, 1) := by decide +kernel
theorem dX8_init_1 : decode cX8_init 1 = .ok (.invokespecial 3, 3) := by decide +kernel
theorem dX8_init_4 : decode cX8_init 4 = .ok (.aload_n 0, 1) := by decide +kernel
theorem dX8_init_5 : decode cX8_init 5 = .ok (.bipush 6, 2) := by decide +kernel
theorem dX8_init_7 : decode cX8_init 7 = .ok (.newarray .int, 2) := by decide +kernel
theorem dX8_init_9 : decode cX8_init 9 = .ok (.putfield 9, 3) := by decide +kernel
theorem dX8_init_12 : decode cX8_init 12 = .ok (.aload_n 0, 1) := by decide +kernel
theorem dX8_init_13 : decode cX8_init 13 = .ok (.bipush 16, 2) := by decide +kernel
theorem dX8_init_15 : decode cX8_init 15 = .ok (.newarray .int, 2) := by decide +kernel
theorem dX8_init_17 : decode cX8_init 17 = .ok (.putfield 15, 3) := by decide +kernel
theorem dX8_init_20 : decode cX8_init 20 = .ok (.aload_n 0, 1) := by decide +kernel
theorem dX8_init_21 : decode cX8_init 21 = .ok (.bipush 96, 2) := by decide +kernel
theorem dX8_init_23 : decode cX8_init 23 = .ok (.newarray .long, 2) := by decide +kernel
theorem dX8_init_25 : decode cX8_init 25 = .ok (.putfield 18, 3) := by decide +kernel
theorem dX8_init_28 : decode cX8_init 28 = .ok (.return_, 1) := by decide +kernel
theorem dX8_become_0 : decode cX8_become 0 = .ok (.aload_n 1, 1) := by decide +kernel
theorem dX8_become_1 : decode cX8_become 1 = .ok (.getfield 9, 3) := by decide +kernel
theorem dX8_become_4 : decode cX8_become 4 = .ok (.iconst 0, 1) := by decide +kernel
theorem dX8_become_5 : decode cX8_become 5 = .ok (.aload_n 0, 1) := by decide +kernel
theorem dX8_become_6 : decode cX8_become 6 = .ok (.getfield 9, 3) := by decide +kernel
theorem dX8_become_9 : decode cX8_become 9 = .ok (.iconst 0, 1) := by decide +kernel
theorem dX8_become_10 : decode cX8_become 10 = .ok (.bipush 6, 2) := by decide +kernel
theorem dX8_become_12 : decode cX8_become 12 = .ok (.invokestatic 22, 3) := by decide +kernel
theorem dX8_become_15 : decode cX8_become 15 = .ok (.aload_n 1, 1) := by decide +kernel
theorem dX8_become_16 : decode cX8_become 16 = .ok (.getfield 15, 3) := by decide +kernel
theorem dX8_become_19 : decode cX8_become 19 = .ok (.iconst 0, 1) := by decide +kernel
theorem dX8_become_20 : decode cX8_become 20 = .ok (.aload_n 0, 1) := by decide +kernel
theorem dX8_become_21 : decode cX8_become 21 = .ok (.getfield 15, 3) := by decide +kernel
theorem dX8_become_24 : decode cX8_become 24 = .ok (.iconst 0, 1) := by decide +kernel
theorem dX8_become_25 : decode cX8_become 25 = .ok (.bipush 16, 2) := by decide +kernel
theorem dX8_become_27 : decode cX8_become 27 = .ok (.invokestatic 22, 3) := by decide +kernel
theorem dX8_become_30 : decode cX8_become 30 = .ok (.aload_n 1, 1) := by decide +kernel
theorem dX8_become_31 : decode cX8_become 31 = .ok (.getfield 18, 3) := by decide +kernel
theorem dX8_become_34 : decode cX8_become 34 = .ok (.iconst 0, 1) := by decide +kernel
theorem dX8_become_35 : decode cX8_become 35 = .ok (.aload_n 0, 1) := by decide +kernel
theorem dX8_become_36 : decode cX8_become 36 = .ok (.getfield 18, 3) := by decide +kernel
theorem dX8_become_39 : decode cX8_become 39 = .ok (.iconst 0, 1) := by decide +kernel
theorem dX8_become_40 : decode cX8_become 40 = .ok (.bipush 96, 2) := by decide +kernel
theorem dX8_become_42 : decode cX8_become 42 = .ok (.invokestatic 22, 3) := by decide +kernel
theorem dX8_become_45 : decode cX8_become 45 = .ok (.aload_n 0, 1) := by decide +kernel
theorem dX8_become_46 : decode cX8_become 46 = .ok (.aload_n 1, 1) := by decide +kernel
theorem dX8_become_47 : decode cX8_become 47 = .ok (.getfield 28, 3) := by decide +kernel
theorem dX8_become_50 : decode cX8_become 50 = .ok (.putfield 28, 3) := by decide +kernel
theorem dX8_become_53 : decode cX8_become 53 = .ok (.aload_n 0, 1) := by decide +kernel
theorem dX8_become_54 : decode cX8_become 54 = .ok (.aload_n 1, 1) := by decide +kernel
theorem dX8_become_55 : decode cX8_become 55 = .ok (.getfield 32, 3) := by decide +kernel
theorem dX8_become_58 : decode cX8_become 58 = .ok (.putfield 32, 3) := by decide +kernel
theorem dX8_become_61 : decode cX8_become 61 = .ok (.return_, 1) := by decide +kernel
set_option maxRecDepth 20000 in
theorem ggX8_begin_X7_twoDigitsAt : GoodIn wsX8_begin wsX7_twoDigitsAt := goodIn_r _ [12, 13, 14, 15, 11, 16, 17, 18, 19, 20, 21, 22, 125, 126] (by decide +kernel) (by decide +kernel)
set_option maxRecDepth 20000 in
theorem gX8_begin_X7_twoDigitsAt : GoodIn wsX8_begin (wsV RX8 35 RX7 yX7_twoDigitsAt wsX7_twoDigitsAt) := goodIn_app (goodIn_of _ (by decide +kernel)) ggX8_begin_X7_twoDigitsAt
set_option maxRecDepth 20000 in
theorem ggX8_begin_X7_signAt : GoodIn wsX8_begin wsX7_signAt := goodIn_r _ [20, 21, 22, 125, 126] (by decide +kernel) (by decide +kernel)
set_option maxRecDepth 20000 in
theorem gX8_begin_X7_signAt : GoodIn wsX8_begin (wsV RX8 44 RX7 yX7_signAt wsX7_signAt) := goodIn_app (goodIn_of _ (by decide +kernel)) ggX8_begin_X7_signAt
set_option maxRecDepth 20000 in
theorem ggX8_begin_X3_ofLetter : GoodIn wsX8_begin wsX3_ofLetter := goodIn_r _ [27, 28, 29, 30, 31, 32, 33, 34, 35, 36, 37, 38, 39, 40, 41, 42, 43, 44, 45, 46, 47, 48, 49, 50, 51, 52, 53, 54, 55, 56, 57, 58, 59, 60, 61, 62, 63, 64, 65, 66, 67, 68, 69, 70, 71, 72, 73, 74, 75, 76, 77, 78, 79, 80, 81, 82, 83, 84, 85, 86, 87, 88, 89, 90, 91, 92, 93, 94, 95, 96, 97, 98, 99, 100, 101, 102, 103, 104, 105, 106, 107, 108, 109, 110, 111, 112, 113, 114, 115, 116] (by decide +kernel) (by decide +kernel)
set_option maxRecDepth 20000 in
theorem gX8_begin_X3_ofLetter : GoodIn wsX8_begin (va_wsS RX8 48 yX3_ofLetter wsX3_ofLetter) := goodIn_app (goodIn_of _ (by decide +kernel)) ggX8_begin_X3_ofLetter
set_option maxRecDepth 20000 in
theorem ggX8_begin_X3_mayBeNothing : GoodIn wsX8_begin wsX3_mayBeNothing := goodIn_r _ [119] (by decide +kernel) (by decide +kernel)
set_option maxRecDepth 20000 in
theorem gX8_begin_X3_mayBeNothing : GoodIn wsX8_begin (va_wsS RX8 54 yX3_mayBeNothing wsX3_mayBeNothing) := goodIn_app (goodIn_of _ (by decide +kernel)) ggX8_begin_X3_mayBeNothing
theorem dX8_begin_0 : decode cX8_begin 0 = .ok (.aload_n 0, 1) := by decide +kernel
theorem dX8_begin_1 : decode cX8_begin 1 = .ok (.aload_n 1, 1) := by decide +kernel
theorem dX8_begin_2 : decode cX8_begin 2 = .ok (.iconst 0, 1) := by decide +kernel
theorem dX8_begin_3 : decode cX8_begin 3 = .ok (.invokevirtual 35, 3) := by decide +kernel
theorem dX8_begin_6 : decode cX8_begin 6 = .ok (.putfield 32, 3) := by decide +kernel
theorem dX8_begin_9 : decode cX8_begin 9 = .ok (.aload_n 0, 1) := by decide +kernel
theorem dX8_begin_10 : decode cX8_begin 10 = .ok (.aload_n 1, 1) := by decide +kernel
theorem dX8_begin_11 : decode cX8_begin 11 = .ok (.getfield 41, 3) := by decide +kernel
theorem dX8_begin_14 : decode cX8_begin 14 = .ok (.iconst 2, 1) := by decide +kernel
theorem dX8_begin_15 : decode cX8_begin 15 = .ok (.isub, 1) := by decide +kernel
theorem dX8_begin_16 : decode cX8_begin 16 = .ok (.putfield 28, 3) := by decide +kernel
theorem dX8_begin_19 : decode cX8_begin 19 = .ok (.iconst 0, 1) := by decide +kernel
theorem dX8_begin_20 : decode cX8_begin 20 = .ok (.istore_n 2, 1) := by decide +kernel
theorem dX8_begin_21 : decode cX8_begin 21 = .ok (.iload_n 2, 1) := by decide +kernel
theorem dX8_begin_22 : decode cX8_begin 22 = .ok (.aload_n 0, 1) := by decide +kernel
theorem dX8_begin_23 : decode cX8_begin 23 = .ok (.getfield 28, 3) := by decide +kernel
theorem dX8_begin_26 : decode cX8_begin 26 = .ok (.if_icmp .ge 74, 3) := by decide +kernel
theorem dX8_begin_29 : decode cX8_begin 29 = .ok (.aload_n 0, 1) := by decide +kernel
theorem dX8_begin_30 : decode cX8_begin 30 = .ok (.getfield 9, 3) := by decide +kernel
theorem dX8_begin_33 : decode cX8_begin 33 = .ok (.iload_n 2, 1) := by decide +kernel
theorem dX8_begin_34 : decode cX8_begin 34 = .ok (.aload_n 1, 1) := by decide +kernel
theorem dX8_begin_35 : decode cX8_begin 35 = .ok (.iload_n 2, 1) := by decide +kernel
theorem dX8_begin_36 : decode cX8_begin 36 = .ok (.iconst 2, 1) := by decide +kernel
theorem dX8_begin_37 : decode cX8_begin 37 = .ok (.iadd, 1) := by decide +kernel
theorem dX8_begin_38 : decode cX8_begin 38 = .ok (.invokevirtual 44, 3) := by decide +kernel
theorem dX8_begin_41 : decode cX8_begin 41 = .ok (.invokestatic 48, 3) := by decide +kernel
theorem dX8_begin_44 : decode cX8_begin 44 = .ok (.iastore, 1) := by decide +kernel
theorem dX8_begin_45 : decode cX8_begin 45 = .ok (.aload_n 0, 1) := by decide +kernel
theorem dX8_begin_46 : decode cX8_begin 46 = .ok (.getfield 9, 3) := by decide +kernel
theorem dX8_begin_49 : decode cX8_begin 49 = .ok (.iload_n 2, 1) := by decide +kernel
theorem dX8_begin_50 : decode cX8_begin 50 = .ok (.iaload, 1) := by decide +kernel
theorem dX8_begin_51 : decode cX8_begin 51 = .ok (.invokestatic 54, 3) := by decide +kernel
theorem dX8_begin_54 : decode cX8_begin 54 = .ok (.ifCond .eq 9, 3) := by decide +kernel
theorem dX8_begin_57 : decode cX8_begin 57 = .ok (.ldc2_w 58, 3) := by decide +kernel
theorem dX8_begin_60 : decode cX8_begin 60 = .ok (.goto 4, 3) := by decide +kernel
theorem dX8_begin_63 : decode cX8_begin 63 = .ok (.lconst 0, 1) := by decide +kernel
theorem dX8_begin_64 : decode cX8_begin 64 = .ok (.lstore_n 3, 1) := by decide +kernel
theorem dX8_begin_65 : decode cX8_begin 65 = .ok (.iconst 0, 1) := by decide +kernel
theorem dX8_begin_66 : decode cX8_begin 66 = .ok (.istore 5, 2) := by decide +kernel
theorem dX8_begin_68 : decode cX8_begin 68 = .ok (.iload 5, 2) := by decide +kernel
theorem dX8_begin_70 : decode cX8_begin 70 = .ok (.bipush 16, 2) := by decide +kernel
theorem dX8_begin_72 : decode cX8_begin 72 = .ok (.if_icmp .ge 22, 3) := by decide +kernel
theorem dX8_begin_75 : decode cX8_begin 75 = .ok (.aload_n 0, 1) := by decide +kernel
theorem dX8_begin_76 : decode cX8_begin 76 = .ok (.getfield 18, 3) := by decide +kernel
theorem dX8_begin_79 : decode cX8_begin 79 = .ok (.iload_n 2, 1) := by decide +kernel
theorem dX8_begin_80 : decode cX8_begin 80 = .ok (.bipush 16, 2) := by decide +kernel
theorem dX8_begin_82 : decode cX8_begin 82 = .ok (.imul, 1) := by decide +kernel
theorem dX8_begin_83 : decode cX8_begin 83 = .ok (.iload 5, 2) := by decide +kernel
theorem dX8_begin_85 : decode cX8_begin 85 = .ok (.iadd, 1) := by decide +kernel
theorem dX8_begin_86 : decode cX8_begin 86 = .ok (.lload_n 3, 1) := by decide +kernel
theorem dX8_begin_87 : decode cX8_begin 87 = .ok (.lastore, 1) := by decide +kernel
theorem dX8_begin_88 : decode cX8_begin 88 = .ok (.iinc 5 1, 3) := by decide +kernel
theorem dX8_begin_91 : decode cX8_begin 91 = .ok (.goto (-23), 3) := by decide +kernel
theorem dX8_begin_94 : decode cX8_begin 94 = .ok (.iinc 2 1, 3) := by decide +kernel
theorem dX8_begin_97 : decode cX8_begin 97 = .ok (.goto (-76), 3) := by decide +kernel
theorem dX8_begin_100 : decode cX8_begin 100 = .ok (.iconst 0, 1) := by decide +kernel
theorem dX8_begin_101 : decode cX8_begin 101 = .ok (.istore_n 2, 1) := by decide +kernel
theorem dX8_begin_102 : decode cX8_begin 102 = .ok (.iload_n 2, 1) := by decide +kernel
theorem dX8_begin_103 : decode cX8_begin 103 = .ok (.bipush 16, 2) := by decide +kernel
theorem dX8_begin_105 : decode cX8_begin 105 = .ok (.if_icmp .ge 16, 3) := by decide +kernel
theorem dX8_begin_108 : decode cX8_begin 108 = .ok (.aload_n 0, 1) := by decide +kernel
theorem dX8_begin_109 : decode cX8_begin 109 = .ok (.getfield 15, 3) := by decide +kernel
theorem dX8_begin_112 : decode cX8_begin 112 = .ok (.iload_n 2, 1) := by decide +kernel
theorem dX8_begin_113 : decode cX8_begin 113 = .ok (.iload_n 2, 1) := by decide +kernel
theorem dX8_begin_114 : decode cX8_begin 114 = .ok (.iastore, 1) := by decide +kernel
theorem dX8_begin_115 : decode cX8_begin 115 = .ok (.iinc 2 1, 3) := by decide +kernel
theorem dX8_begin_118 : decode cX8_begin 118 = .ok (.goto (-16), 3) := by decide +kernel
theorem dX8_begin_121 : decode cX8_begin 121 = .ok (.return_, 1) := by decide +kernel
theorem dX8_hasColumn_0 : decode cX8_hasColumn 0 = .ok (.iload_n 1, 1) := by decide +kernel
theorem dX8_hasColumn_1 : decode cX8_hasColumn 1 = .ok (.ifCond .lt 15, 3) := by decide +kernel
theorem dX8_hasColumn_4 : decode cX8_hasColumn 4 = .ok (.iload_n 1, 1) := by decide +kernel
theorem dX8_hasColumn_5 : decode cX8_hasColumn 5 = .ok (.aload_n 0, 1) := by decide +kernel
theorem dX8_hasColumn_6 : decode cX8_hasColumn 6 = .ok (.getfield 28, 3) := by decide +kernel
theorem dX8_hasColumn_9 : decode cX8_hasColumn 9 = .ok (.if_icmp .ge 7, 3) := by decide +kernel
theorem dX8_hasColumn_12 : decode cX8_hasColumn 12 = .ok (.iconst 1, 1) := by decide +kernel
theorem dX8_hasColumn_13 : decode cX8_hasColumn 13 = .ok (.goto 4, 3) := by decide +kernel
theorem dX8_hasColumn_16 : decode cX8_hasColumn 16 = .ok (.iconst 0, 1) := by decide +kernel
theorem dX8_hasColumn_17 : decode cX8_hasColumn 17 = .ok (.ireturn, 1) := by decide +kernel
theorem dX8_hasRow_0 : decode cX8_hasRow 0 = .ok (.iload_n 1, 1) := by decide +kernel
theorem dX8_hasRow_1 : decode cX8_hasRow 1 = .ok (.ifCond .lt 15, 3) := by decide +kernel
theorem dX8_hasRow_4 : decode cX8_hasRow 4 = .ok (.iload_n 1, 1) := by decide +kernel
theorem dX8_hasRow_5 : decode cX8_hasRow 5 = .ok (.aload_n 0, 1) := by decide +kernel
theorem dX8_hasRow_6 : decode cX8_hasRow 6 = .ok (.getfield 32, 3) := by decide +kernel
theorem dX8_hasRow_9 : decode cX8_hasRow 9 = .ok (.if_icmp .ge 7, 3) := by decide +kernel
theorem dX8_hasRow_12 : decode cX8_hasRow 12 = .ok (.iconst 1, 1) := by decide +kernel
theorem dX8_hasRow_13 : decode cX8_hasRow 13 = .ok (.goto 4, 3) := by decide +kernel
theorem dX8_hasRow_16 : decode cX8_hasRow 16 = .ok (.iconst 0, 1) := by decide +kernel
theorem dX8_hasRow_17 : decode cX8_hasRow 17 = .ok (.ireturn, 1) := by decide +kernel
set_option maxRecDepth 20000 in
theorem ggX8_isProper_X8_hasColumn : GoodIn wsX8_isProper wsX8_hasColumn := goodIn_r _ [6, 7, 8, 9, 10, 11, 12] (by decide +kernel) (by decide +kernel)
set_option maxRecDepth 20000 in
theorem gX8_isProper_X8_hasColumn : GoodIn wsX8_isProper (wsV RX8 60 RX8 yX8_hasColumn wsX8_hasColumn) := goodIn_app (goodIn_of _ (by decide +kernel)) ggX8_isProper_X8_hasColumn
theorem dX8_isProper_0 : decode cX8_isProper 0 = .ok (.aload_n 0, 1) := by decide +kernel
theorem dX8_isProper_1 : decode cX8_isProper 1 = .ok (.iload_n 1, 1) := by decide +kernel
theorem dX8_isProper_2 : decode cX8_isProper 2 = .ok (.invokevirtual 60, 3) := by decide +kernel
theorem dX8_isProper_5 : decode cX8_isProper 5 = .ok (.ifCond .eq 18, 3) := by decide +kernel
theorem dX8_isProper_8 : decode cX8_isProper 8 = .ok (.aload_n 0, 1) := by decide +kernel
theorem dX8_isProper_9 : decode cX8_isProper 9 = .ok (.getfield 9, 3) := by decide +kernel
theorem dX8_isProper_12 : decode cX8_isProper 12 = .ok (.iload_n 1, 1) := by decide +kernel
theorem dX8_isProper_13 : decode cX8_isProper 13 = .ok (.iaload, 1) := by decide +kernel
theorem dX8_isProper_14 : decode cX8_isProper 14 = .ok (.bipush 10, 2) := by decide +kernel
theorem dX8_isProper_16 : decode cX8_isProper 16 = .ok (.if_icmp .gt 7, 3) := by decide +kernel
theorem dX8_isProper_19 : decode cX8_isProper 19 = .ok (.iconst 1, 1) := by decide +kernel
theorem dX8_isProper_20 : decode cX8_isProper 20 = .ok (.goto 4, 3) := by decide +kernel
theorem dX8_isProper_23 : decode cX8_isProper 23 = .ok (.iconst 0, 1) := by decide +kernel
theorem dX8_isProper_24 : decode cX8_isProper 24 = .ok (.ireturn, 1) := by decide +kernel
set_option maxRecDepth 20000 in
theorem ggX8_properSet_X8_isProper : GoodIn wsX8_properSet wsX8_isProper := goodIn_r _ [6, 7, 8, 9, 10, 5, 11, 1, 12, 13, 14, 15, 16] (by decide +kernel) (by decide +kernel)
set_option maxRecDepth 20000 in
theorem gX8_properSet_X8_isProper : GoodIn wsX8_properSet (wsV RX8 63 RX8 yX8_isProper wsX8_isProper) := goodIn_app (goodIn_of _ (by decide +kernel)) ggX8_properSet_X8_isProper
theorem dX8_properSet_0 : decode cX8_properSet 0 = .ok (.iconst 0, 1) := by decide +kernel
theorem dX8_properSet_1 : decode cX8_properSet 1 = .ok (.istore_n 1, 1) := by decide +kernel
theorem dX8_properSet_2 : decode cX8_properSet 2 = .ok (.iconst 0, 1) := by decide +kernel
theorem dX8_properSet_3 : decode cX8_properSet 3 = .ok (.istore_n 2, 1) := by decide +kernel
theorem dX8_properSet_4 : decode cX8_properSet 4 = .ok (.iload_n 2, 1) := by decide +kernel
theorem dX8_properSet_5 : decode cX8_properSet 5 = .ok (.aload_n 0, 1) := by decide +kernel
theorem dX8_properSet_6 : decode cX8_properSet 6 = .ok (.getfield 28, 3) := by decide +kernel
theorem dX8_properSet_9 : decode cX8_properSet 9 = .ok (.if_icmp .ge 23, 3) := by decide +kernel
theorem dX8_properSet_12 : decode cX8_properSet 12 = .ok (.aload_n 0, 1) := by decide +kernel
theorem dX8_properSet_13 : decode cX8_properSet 13 = .ok (.iload_n 2, 1) := by decide +kernel
theorem dX8_properSet_14 : decode cX8_properSet 14 = .ok (.invokevirtual 63, 3) := by decide +kernel
theorem dX8_properSet_17 : decode cX8_properSet 17 = .ok (.ifCond .eq 9, 3) := by decide +kernel
theorem dX8_properSet_20 : decode cX8_properSet 20 = .ok (.iload_n 1, 1) := by decide +kernel
theorem dX8_properSet_21 : decode cX8_properSet 21 = .ok (.iconst 1, 1) := by decide +kernel
theorem dX8_properSet_22 : decode cX8_properSet 22 = .ok (.iload_n 2, 1) := by decide +kernel
theorem dX8_properSet_23 : decode cX8_properSet 23 = .ok (.ishl, 1) := by decide +kernel
theorem dX8_properSet_24 : decode cX8_properSet 24 = .ok (.ior, 1) := by decide +kernel
theorem dX8_properSet_25 : decode cX8_properSet 25 = .ok (.istore_n 1, 1) := by decide +kernel
theorem dX8_properSet_26 : decode cX8_properSet 26 = .ok (.iinc 2 1, 3) := by decide +kernel
theorem dX8_properSet_29 : decode cX8_properSet 29 = .ok (.goto (-25), 3) := by decide +kernel
theorem dX8_properSet_32 : decode cX8_properSet 32 = .ok (.iload_n 1, 1) := by decide +kernel
theorem dX8_properSet_33 : decode cX8_properSet 33 = .ok (.ireturn, 1) := by decide +kernel
theorem dX8_cell_0 : decode cX8_cell 0 = .ok (.aload_n 0, 1) := by decide +kernel
theorem dX8_cell_1 : decode cX8_cell 1 = .ok (.getfield 18, 3) := by decide +kernel
theorem dX8_cell_4 : decode cX8_cell 4 = .ok (.iload_n 1, 1) := by decide +kernel
theorem dX8_cell_5 : decode cX8_cell 5 = .ok (.bipush 16, 2) := by decide +kernel
theorem dX8_cell_7 : decode cX8_cell 7 = .ok (.imul, 1) := by decide +kernel
theorem dX8_cell_8 : decode cX8_cell 8 = .ok (.iload_n 2, 1) := by decide +kernel
theorem dX8_cell_9 : decode cX8_cell 9 = .ok (.iadd, 1) := by decide +kernel
theorem dX8_cell_10 : decode cX8_cell 10 = .ok (.laload, 1) := by decide +kernel
theorem dX8_cell_11 : decode cX8_cell 11 = .ok (.lreturn, 1) := by decide +kernel
theorem dX8_whyUnasked_0 : decode cX8_whyUnasked 0 = .ok (.aload_n 0, 1) := by decide +kernel
theorem dX8_whyUnasked_1 : decode cX8_whyUnasked 1 = .ok (.getfield 9, 3) := by decide +kernel
theorem dX8_whyUnasked_4 : decode cX8_whyUnasked 4 = .ok (.iload_n 1, 1) := by decide +kernel
theorem dX8_whyUnasked_5 : decode cX8_whyUnasked 5 = .ok (.iaload, 1) := by decide +kernel
theorem dX8_whyUnasked_6 : decode cX8_whyUnasked 6 = .ok (.bipush 10, 2) := by decide +kernel
theorem dX8_whyUnasked_8 : decode cX8_whyUnasked 8 = .ok (.if_icmp .gt 5, 3) := by decide +kernel
theorem dX8_whyUnasked_11 : decode cX8_whyUnasked 11 = .ok (.iconst 0, 1) := by decide +kernel
theorem dX8_whyUnasked_12 : decode cX8_whyUnasked 12 = .ok (.ireturn, 1) := by decide +kernel
theorem dX8_whyUnasked_13 : decode cX8_whyUnasked 13 = .ok (.aload_n 0, 1) := by decide +kernel
theorem dX8_whyUnasked_14 : decode cX8_whyUnasked 14 = .ok (.getfield 9, 3) := by decide +kernel
theorem dX8_whyUnasked_17 : decode cX8_whyUnasked 17 = .ok (.iload_n 1, 1) := by decide +kernel
theorem dX8_whyUnasked_18 : decode cX8_whyUnasked 18 = .ok (.iaload, 1) := by decide +kernel
theorem dX8_whyUnasked_19 : decode cX8_whyUnasked 19 = .ok (.bipush 11, 2) := by decide +kernel
theorem dX8_whyUnasked_21 : decode cX8_whyUnasked 21 = .ok (.if_icmp .ne 7, 3) := by decide +kernel
theorem dX8_whyUnasked_24 : decode cX8_whyUnasked 24 = .ok (.iconst 2, 1) := by decide +kernel
theorem dX8_whyUnasked_25 : decode cX8_whyUnasked 25 = .ok (.goto 4, 3) := by decide +kernel
theorem dX8_whyUnasked_28 : decode cX8_whyUnasked 28 = .ok (.iconst 3, 1) := by decide +kernel
theorem dX8_whyUnasked_29 : decode cX8_whyUnasked 29 = .ok (.ireturn, 1) := by decide +kernel
set_option maxRecDepth 20000 in
theorem ggX8_whyUnaskedOfBoth_X8_whyUnasked : GoodIn wsX8_whyUnaskedOfBoth wsX8_whyUnasked := goodIn_r _ [5, 6, 7, 8, 9, 10, 11] (by decide +kernel) (by decide +kernel)
set_option maxRecDepth 20000 in
theorem gX8_whyUnaskedOfBoth_X8_whyUnasked : GoodIn wsX8_whyUnaskedOfBoth (wsV RX8 66 RX8 yX8_whyUnasked wsX8_whyUnasked) := goodIn_app (goodIn_of _ (by decide +kernel)) ggX8_whyUnaskedOfBoth_X8_whyUnasked
theorem dX8_whyUnaskedOfBoth_0 : decode cX8_whyUnaskedOfBoth 0 = .ok (.aload_n 0, 1) := by decide +kernel
theorem dX8_whyUnaskedOfBoth_1 : decode cX8_whyUnaskedOfBoth 1 = .ok (.iload_n 1, 1) := by decide +kernel
theorem dX8_whyUnaskedOfBoth_2 : decode cX8_whyUnaskedOfBoth 2 = .ok (.invokevirtual 66, 3) := by decide +kernel
theorem dX8_whyUnaskedOfBoth_5 : decode cX8_whyUnaskedOfBoth 5 = .ok (.istore_n 3, 1) := by decide +kernel
theorem dX8_whyUnaskedOfBoth_6 : decode cX8_whyUnaskedOfBoth 6 = .ok (.iload_n 3, 1) := by decide +kernel
theorem dX8_whyUnaskedOfBoth_7 : decode cX8_whyUnaskedOfBoth 7 = .ok (.ifCond .eq 7, 3) := by decide +kernel
theorem dX8_whyUnaskedOfBoth_10 : decode cX8_whyUnaskedOfBoth 10 = .ok (.iload_n 3, 1) := by decide +kernel
theorem dX8_whyUnaskedOfBoth_11 : decode cX8_whyUnaskedOfBoth 11 = .ok (.goto 8, 3) := by decide +kernel
theorem dX8_whyUnaskedOfBoth_14 : decode cX8_whyUnaskedOfBoth 14 = .ok (.aload_n 0, 1) := by decide +kernel
theorem dX8_whyUnaskedOfBoth_15 : decode cX8_whyUnaskedOfBoth 15 = .ok (.iload_n 2, 1) := by decide +kernel
theorem dX8_whyUnaskedOfBoth_16 : decode cX8_whyUnaskedOfBoth 16 = .ok (.invokevirtual 66, 3) := by decide +kernel
theorem dX8_whyUnaskedOfBoth_19 : decode cX8_whyUnaskedOfBoth 19 = .ok (.ireturn, 1) := by decide +kernel
set_option maxRecDepth 20000 in
theorem ggX8_whyNoCell_X8_whyUnasked : GoodIn wsX8_whyNoCell wsX8_whyUnasked := goodIn_r _ [6, 1, 16, 17, 18, 19, 20] (by decide +kernel) (by decide +kernel)
set_option maxRecDepth 20000 in
theorem gX8_whyNoCell_X8_whyUnasked : GoodIn wsX8_whyNoCell (wsV RX8 66 RX8 yX8_whyUnasked wsX8_whyUnasked) := goodIn_app (goodIn_of _ (by decide +kernel)) ggX8_whyNoCell_X8_whyUnasked
set_option maxRecDepth 20000 in
theorem ggX8_whyNoCell_X3_isNumberWay : GoodIn wsX8_whyNoCell wsX3_isNumberWay := goodIn_r _ [10] (by decide +kernel) (by decide +kernel)
set_option maxRecDepth 20000 in
theorem gX8_whyNoCell_X3_isNumberWay : GoodIn wsX8_whyNoCell (va_wsS RX8 69 yX3_isNumberWay wsX3_isNumberWay) := goodIn_app (goodIn_of _ (by decide +kernel)) ggX8_whyNoCell_X3_isNumberWay
set_option maxRecDepth 20000 in
theorem ggX8_whyNoCell_X8_hasRow : GoodIn wsX8_whyNoCell wsX8_hasRow := goodIn_r _ [14, 15, 16, 17, 18, 19, 20] (by decide +kernel) (by decide +kernel)
set_option maxRecDepth 20000 in
theorem gX8_whyNoCell_X8_hasRow : GoodIn wsX8_whyNoCell (wsV RX8 72 RX8 yX8_hasRow wsX8_hasRow) := goodIn_app (goodIn_of _ (by decide +kernel)) ggX8_whyNoCell_X8_hasRow
theorem dX8_whyNoCell_0 : decode cX8_whyNoCell 0 = .ok (.aload_n 0, 1) := by decide +kernel
theorem dX8_whyNoCell_1 : decode cX8_whyNoCell 1 = .ok (.iload_n 1, 1) := by decide +kernel
theorem dX8_whyNoCell_2 : decode cX8_whyNoCell 2 = .ok (.invokevirtual 66, 3) := by decide +kernel
theorem dX8_whyNoCell_5 : decode cX8_whyNoCell 5 = .ok (.istore 4, 2) := by decide +kernel
theorem dX8_whyNoCell_7 : decode cX8_whyNoCell 7 = .ok (.iload 4, 2) := by decide +kernel
theorem dX8_whyNoCell_9 : decode cX8_whyNoCell 9 = .ok (.ifCond .eq 6, 3) := by decide +kernel
theorem dX8_whyNoCell_12 : decode cX8_whyNoCell 12 = .ok (.iload 4, 2) := by decide +kernel
theorem dX8_whyNoCell_14 : decode cX8_whyNoCell 14 = .ok (.ireturn, 1) := by decide +kernel
theorem dX8_whyNoCell_15 : decode cX8_whyNoCell 15 = .ok (.iload_n 3, 1) := by decide +kernel
theorem dX8_whyNoCell_16 : decode cX8_whyNoCell 16 = .ok (.invokestatic 69, 3) := by decide +kernel
theorem dX8_whyNoCell_19 : decode cX8_whyNoCell 19 = .ok (.ifCond .eq 16, 3) := by decide +kernel
theorem dX8_whyNoCell_22 : decode cX8_whyNoCell 22 = .ok (.aload_n 0, 1) := by decide +kernel
theorem dX8_whyNoCell_23 : decode cX8_whyNoCell 23 = .ok (.getfield 9, 3) := by decide +kernel
theorem dX8_whyNoCell_26 : decode cX8_whyNoCell 26 = .ok (.iload_n 1, 1) := by decide +kernel
theorem dX8_whyNoCell_27 : decode cX8_whyNoCell 27 = .ok (.iaload, 1) := by decide +kernel
theorem dX8_whyNoCell_28 : decode cX8_whyNoCell 28 = .ok (.bipush 7, 2) := by decide +kernel
theorem dX8_whyNoCell_30 : decode cX8_whyNoCell 30 = .ok (.if_icmp .le 5, 3) := by decide +kernel
theorem dX8_whyNoCell_33 : decode cX8_whyNoCell 33 = .ok (.iconst 4, 1) := by decide +kernel
theorem dX8_whyNoCell_34 : decode cX8_whyNoCell 34 = .ok (.ireturn, 1) := by decide +kernel
theorem dX8_whyNoCell_35 : decode cX8_whyNoCell 35 = .ok (.aload_n 0, 1) := by decide +kernel
theorem dX8_whyNoCell_36 : decode cX8_whyNoCell 36 = .ok (.iload_n 2, 1) := by decide +kernel
theorem dX8_whyNoCell_37 : decode cX8_whyNoCell 37 = .ok (.invokevirtual 72, 3) := by decide +kernel
theorem dX8_whyNoCell_40 : decode cX8_whyNoCell 40 = .ok (.ifCond .eq 7, 3) := by decide +kernel
theorem dX8_whyNoCell_43 : decode cX8_whyNoCell 43 = .ok (.iconst 0, 1) := by decide +kernel
theorem dX8_whyNoCell_44 : decode cX8_whyNoCell 44 = .ok (.goto 4, 3) := by decide +kernel
theorem dX8_whyNoCell_47 : decode cX8_whyNoCell 47 = .ok (.iconst 5, 1) := by decide +kernel
theorem dX8_whyNoCell_48 : decode cX8_whyNoCell 48 = .ok (.ireturn, 1) := by decide +kernel
set_option maxRecDepth 20000 in
theorem ggX8_whyNotPut_X8_whyNoCell : GoodIn wsX8_whyNotPut wsX8_whyNoCell := goodIn_r _ [6, 1, 7, 8, 9, 5, 10, 11, 12, 13, 14, 15, 16, 17, 18, 19, 31, 32, 33, 34, 35] (by decide +kernel) (by decide +kernel)
set_option maxRecDepth 20000 in
theorem gX8_whyNotPut_X8_whyNoCell : GoodIn wsX8_whyNotPut (wsV RX8 75 RX8 yX8_whyNoCell wsX8_whyNoCell) := goodIn_app (goodIn_of _ (by decide +kernel)) ggX8_whyNotPut_X8_whyNoCell
set_option maxRecDepth 20000 in
theorem ggX8_whyNotPut_X3_toldKind : GoodIn wsX8_whyNotPut wsX3_toldKind := goodIn_r _ [22] (by decide +kernel) (by decide +kernel)
set_option maxRecDepth 20000 in
theorem gX8_whyNotPut_X3_toldKind : GoodIn wsX8_whyNotPut (va_wsS RX8 79 yX3_toldKind wsX3_toldKind) := goodIn_app (goodIn_of _ (by decide +kernel)) ggX8_whyNotPut_X3_toldKind
set_option maxRecDepth 20000 in
theorem ggX8_whyNotPut_X3_fits : GoodIn wsX8_whyNotPut wsX3_fits := goodIn_r _ [25, 26, 27, 13, 28, 29, 30, 12, 14] (by decide +kernel) (by decide +kernel)
set_option maxRecDepth 20000 in
theorem gX8_whyNotPut_X3_fits : GoodIn wsX8_whyNotPut (va_wsS RX8 82 yX3_fits wsX3_fits) := goodIn_app (goodIn_of _ (by decide +kernel)) ggX8_whyNotPut_X3_fits
theorem dX8_whyNotPut_0 : decode cX8_whyNotPut 0 = .ok (.aload_n 0, 1) := by decide +kernel
theorem dX8_whyNotPut_1 : decode cX8_whyNotPut 1 = .ok (.iload_n 1, 1) := by decide +kernel
theorem dX8_whyNotPut_2 : decode cX8_whyNotPut 2 = .ok (.iload_n 2, 1) := by decide +kernel
theorem dX8_whyNotPut_3 : decode cX8_whyNotPut 3 = .ok (.iload_n 3, 1) := by decide +kernel
theorem dX8_whyNotPut_4 : decode cX8_whyNotPut 4 = .ok (.invokevirtual 75, 3) := by decide +kernel
theorem dX8_whyNotPut_7 : decode cX8_whyNotPut 7 = .ok (.istore 4, 2) := by decide +kernel
theorem dX8_whyNotPut_9 : decode cX8_whyNotPut 9 = .ok (.iload 4, 2) := by decide +kernel
theorem dX8_whyNotPut_11 : decode cX8_whyNotPut 11 = .ok (.ifCond .eq 6, 3) := by decide +kernel
theorem dX8_whyNotPut_14 : decode cX8_whyNotPut 14 = .ok (.iload 4, 2) := by decide +kernel
theorem dX8_whyNotPut_16 : decode cX8_whyNotPut 16 = .ok (.ireturn, 1) := by decide +kernel
theorem dX8_whyNotPut_17 : decode cX8_whyNotPut 17 = .ok (.iload_n 3, 1) := by decide +kernel
theorem dX8_whyNotPut_18 : decode cX8_whyNotPut 18 = .ok (.invokestatic 79, 3) := by decide +kernel
theorem dX8_whyNotPut_21 : decode cX8_whyNotPut 21 = .ok (.aload_n 0, 1) := by decide +kernel
theorem dX8_whyNotPut_22 : decode cX8_whyNotPut 22 = .ok (.getfield 9, 3) := by decide +kernel
theorem dX8_whyNotPut_25 : decode cX8_whyNotPut 25 = .ok (.iload_n 1, 1) := by decide +kernel
theorem dX8_whyNotPut_26 : decode cX8_whyNotPut 26 = .ok (.iaload, 1) := by decide +kernel
theorem dX8_whyNotPut_27 : decode cX8_whyNotPut 27 = .ok (.invokestatic 82, 3) := by decide +kernel
theorem dX8_whyNotPut_30 : decode cX8_whyNotPut 30 = .ok (.ifCond .eq 7, 3) := by decide +kernel
theorem dX8_whyNotPut_33 : decode cX8_whyNotPut 33 = .ok (.iconst 0, 1) := by decide +kernel
theorem dX8_whyNotPut_34 : decode cX8_whyNotPut 34 = .ok (.goto 5, 3) := by decide +kernel
theorem dX8_whyNotPut_37 : decode cX8_whyNotPut 37 = .ok (.bipush 6, 2) := by decide +kernel
theorem dX8_whyNotPut_39 : decode cX8_whyNotPut 39 = .ok (.ireturn, 1) := by decide +kernel
set_option maxRecDepth 20000 in
theorem ggX8_whyNotTaken_X8_whyNoCell : GoodIn wsX8_whyNotTaken wsX8_whyNoCell := goodIn_r _ [6, 1, 7, 8, 9, 5, 10, 11, 12, 13, 14, 15, 16, 17, 18, 19, 25, 26, 27, 28, 29] (by decide +kernel) (by decide +kernel)
set_option maxRecDepth 20000 in
theorem gX8_whyNotTaken_X8_whyNoCell : GoodIn wsX8_whyNotTaken (wsV RX8 75 RX8 yX8_whyNoCell wsX8_whyNoCell) := goodIn_app (goodIn_of _ (by decide +kernel)) ggX8_whyNotTaken_X8_whyNoCell
set_option maxRecDepth 20000 in
theorem ggX8_whyNotTaken_X3_widens : GoodIn wsX8_whyNotTaken wsX3_widens := goodIn_r _ [22, 23, 24, 12, 13, 14] (by decide +kernel) (by decide +kernel)
set_option maxRecDepth 20000 in
theorem gX8_whyNotTaken_X3_widens : GoodIn wsX8_whyNotTaken (va_wsS RX8 86 yX3_widens wsX3_widens) := goodIn_app (goodIn_of _ (by decide +kernel)) ggX8_whyNotTaken_X3_widens
theorem dX8_whyNotTaken_0 : decode cX8_whyNotTaken 0 = .ok (.aload_n 0, 1) := by decide +kernel
theorem dX8_whyNotTaken_1 : decode cX8_whyNotTaken 1 = .ok (.iload_n 1, 1) := by decide +kernel
theorem dX8_whyNotTaken_2 : decode cX8_whyNotTaken 2 = .ok (.iload_n 2, 1) := by decide +kernel
theorem dX8_whyNotTaken_3 : decode cX8_whyNotTaken 3 = .ok (.iload_n 3, 1) := by decide +kernel
theorem dX8_whyNotTaken_4 : decode cX8_whyNotTaken 4 = .ok (.invokevirtual 75, 3) := by decide +kernel
theorem dX8_whyNotTaken_7 : decode cX8_whyNotTaken 7 = .ok (.istore 4, 2) := by decide +kernel
theorem dX8_whyNotTaken_9 : decode cX8_whyNotTaken 9 = .ok (.iload 4, 2) := by decide +kernel
theorem dX8_whyNotTaken_11 : decode cX8_whyNotTaken 11 = .ok (.ifCond .eq 6, 3) := by decide +kernel
theorem dX8_whyNotTaken_14 : decode cX8_whyNotTaken 14 = .ok (.iload 4, 2) := by decide +kernel
theorem dX8_whyNotTaken_16 : decode cX8_whyNotTaken 16 = .ok (.ireturn, 1) := by decide +kernel
theorem dX8_whyNotTaken_17 : decode cX8_whyNotTaken 17 = .ok (.iload_n 3, 1) := by decide +kernel
theorem dX8_whyNotTaken_18 : decode cX8_whyNotTaken 18 = .ok (.bipush 10, 2) := by decide +kernel
theorem dX8_whyNotTaken_20 : decode cX8_whyNotTaken 20 = .ok (.if_icmp .eq 16, 3) := by decide +kernel
theorem dX8_whyNotTaken_23 : decode cX8_whyNotTaken 23 = .ok (.aload_n 0, 1) := by decide +kernel
theorem dX8_whyNotTaken_24 : decode cX8_whyNotTaken 24 = .ok (.getfield 9, 3) := by decide +kernel
theorem dX8_whyNotTaken_27 : decode cX8_whyNotTaken 27 = .ok (.iload_n 1, 1) := by decide +kernel
theorem dX8_whyNotTaken_28 : decode cX8_whyNotTaken 28 = .ok (.iaload, 1) := by decide +kernel
theorem dX8_whyNotTaken_29 : decode cX8_whyNotTaken 29 = .ok (.iload_n 3, 1) := by decide +kernel
theorem dX8_whyNotTaken_30 : decode cX8_whyNotTaken 30 = .ok (.invokestatic 86, 3) := by decide +kernel
theorem dX8_whyNotTaken_33 : decode cX8_whyNotTaken 33 = .ok (.ifCond .eq 7, 3) := by decide +kernel
theorem dX8_whyNotTaken_36 : decode cX8_whyNotTaken 36 = .ok (.iconst 0, 1) := by decide +kernel
theorem dX8_whyNotTaken_37 : decode cX8_whyNotTaken 37 = .ok (.goto 5, 3) := by decide +kernel
theorem dX8_whyNotTaken_40 : decode cX8_whyNotTaken 40 = .ok (.bipush 6, 2) := by decide +kernel
theorem dX8_whyNotTaken_42 : decode cX8_whyNotTaken 42 = .ok (.ireturn, 1) := by decide +kernel
set_option maxRecDepth 20000 in
theorem ggX8_store_X3_widened : GoodIn wsX8_store wsX3_widened := goodIn_r _ [6, 7, 8, 9, 10, 11, 12, 13, 14, 15, 16, 17, 18, 19, 20, 21, 22, 23, 24, 25, 26, 27, 28, 29, 30, 31, 32, 33, 34] (by decide +kernel) (by decide +kernel)
set_option maxRecDepth 20000 in
theorem gX8_store_X3_widened : GoodIn wsX8_store (va_wsS RX8 89 yX3_widened wsX3_widened) := goodIn_app (goodIn_of _ (by decide +kernel)) ggX8_store_X3_widened
theorem dX8_store_0 : decode cX8_store 0 = .ok (.aload_n 0, 1) := by decide +kernel
theorem dX8_store_1 : decode cX8_store 1 = .ok (.getfield 18, 3) := by decide +kernel
theorem dX8_store_4 : decode cX8_store 4 = .ok (.iload_n 1, 1) := by decide +kernel
theorem dX8_store_5 : decode cX8_store 5 = .ok (.bipush 16, 2) := by decide +kernel
theorem dX8_store_7 : decode cX8_store 7 = .ok (.imul, 1) := by decide +kernel
theorem dX8_store_8 : decode cX8_store 8 = .ok (.iload_n 2, 1) := by decide +kernel
theorem dX8_store_9 : decode cX8_store 9 = .ok (.iadd, 1) := by decide +kernel
theorem dX8_store_10 : decode cX8_store 10 = .ok (.iload_n 3, 1) := by decide +kernel
theorem dX8_store_11 : decode cX8_store 11 = .ok (.aload_n 0, 1) := by decide +kernel
theorem dX8_store_12 : decode cX8_store 12 = .ok (.getfield 9, 3) := by decide +kernel
theorem dX8_store_15 : decode cX8_store 15 = .ok (.iload_n 1, 1) := by decide +kernel
theorem dX8_store_16 : decode cX8_store 16 = .ok (.iaload, 1) := by decide +kernel
theorem dX8_store_17 : decode cX8_store 17 = .ok (.lload 4, 2) := by decide +kernel
theorem dX8_store_19 : decode cX8_store 19 = .ok (.invokestatic 89, 3) := by decide +kernel
theorem dX8_store_22 : decode cX8_store 22 = .ok (.lastore, 1) := by decide +kernel
theorem dX8_store_23 : decode cX8_store 23 = .ok (.return_, 1) := by decide +kernel
set_option maxRecDepth 20000 in
theorem ggX8_taken_X8_cell : GoodIn wsX8_taken wsX8_cell := goodIn_r _ [6, 7, 40, 41, 42, 43, 44] (by decide +kernel) (by decide +kernel)
set_option maxRecDepth 20000 in
theorem gX8_taken_X8_cell : GoodIn wsX8_taken (wsV RX8 93 RX8 yX8_cell wsX8_cell) := goodIn_app (goodIn_of _ (by decide +kernel)) ggX8_taken_X8_cell
set_option maxRecDepth 20000 in
theorem ggX8_taken_X3_widened : GoodIn wsX8_taken wsX3_widened := goodIn_r _ [11, 12, 13, 14, 15, 16, 17, 18, 19, 20, 21, 22, 23, 24, 25, 26, 27, 28, 29, 30, 31, 32, 33, 34, 35, 36, 37, 38, 39] (by decide +kernel) (by decide +kernel)
set_option maxRecDepth 20000 in
theorem gX8_taken_X3_widened : GoodIn wsX8_taken (va_wsS RX8 89 yX3_widened wsX3_widened) := goodIn_app (goodIn_of _ (by decide +kernel)) ggX8_taken_X3_widened
theorem dX8_taken_0 : decode cX8_taken 0 = .ok (.aload_n 0, 1) := by decide +kernel
theorem dX8_taken_1 : decode cX8_taken 1 = .ok (.iload_n 1, 1) := by decide +kernel
theorem dX8_taken_2 : decode cX8_taken 2 = .ok (.iload_n 2, 1) := by decide +kernel
theorem dX8_taken_3 : decode cX8_taken 3 = .ok (.invokevirtual 93, 3) := by decide +kernel
theorem dX8_taken_6 : decode cX8_taken 6 = .ok (.lstore 4, 2) := by decide +kernel
theorem dX8_taken_8 : decode cX8_taken 8 = .ok (.iload_n 3, 1) := by decide +kernel
theorem dX8_taken_9 : decode cX8_taken 9 = .ok (.bipush 10, 2) := by decide +kernel
theorem dX8_taken_11 : decode cX8_taken 11 = .ok (.if_icmp .ne 8, 3) := by decide +kernel
theorem dX8_taken_14 : decode cX8_taken 14 = .ok (.lload 4, 2) := by decide +kernel
theorem dX8_taken_16 : decode cX8_taken 16 = .ok (.goto 15, 3) := by decide +kernel
theorem dX8_taken_19 : decode cX8_taken 19 = .ok (.aload_n 0, 1) := by decide +kernel
theorem dX8_taken_20 : decode cX8_taken 20 = .ok (.getfield 9, 3) := by decide +kernel
theorem dX8_taken_23 : decode cX8_taken 23 = .ok (.iload_n 1, 1) := by decide +kernel
theorem dX8_taken_24 : decode cX8_taken 24 = .ok (.iaload, 1) := by decide +kernel
theorem dX8_taken_25 : decode cX8_taken 25 = .ok (.iload_n 3, 1) := by decide +kernel
theorem dX8_taken_26 : decode cX8_taken 26 = .ok (.lload 4, 2) := by decide +kernel
theorem dX8_taken_28 : decode cX8_taken 28 = .ok (.invokestatic 89, 3) := by decide +kernel
theorem dX8_taken_31 : decode cX8_taken 31 = .ok (.lreturn, 1) := by decide +kernel
set_option maxRecDepth 20000 in
theorem ggX8_copyCell_X8_cell : GoodIn wsX8_copyCell wsX8_cell := goodIn_r _ [6, 7, 79, 80, 81, 82, 83] (by decide +kernel) (by decide +kernel)
set_option maxRecDepth 20000 in
theorem gX8_copyCell_X8_cell : GoodIn wsX8_copyCell (wsV RX8 93 RX8 yX8_cell wsX8_cell) := goodIn_app (goodIn_of _ (by decide +kernel)) ggX8_copyCell_X8_cell
set_option maxRecDepth 20000 in
theorem ggX8_copyCell_X3_ownWay : GoodIn wsX8_copyCell wsX3_ownWay := goodIn_r _ [11, 12] (by decide +kernel) (by decide +kernel)
set_option maxRecDepth 20000 in
theorem gX8_copyCell_X3_ownWay : GoodIn wsX8_copyCell (va_wsS RX8 97 yX3_ownWay wsX3_ownWay) := goodIn_app (goodIn_of _ (by decide +kernel)) ggX8_copyCell_X3_ownWay
set_option maxRecDepth 20000 in
theorem ggX8_copyCell_X8_whyNotPut : GoodIn wsX8_copyCell wsX8_whyNotPut := goodIn_r _ [16, 1, 17, 18, 19, 5, 20, 21, 22, 23, 24, 25, 26, 10, 27, 28, 29, 30, 31, 32, 33, 34, 35, 36, 37, 38, 39, 40, 41, 42, 43, 79, 80, 81, 82, 83] (by decide +kernel) (by decide +kernel)
set_option maxRecDepth 20000 in
theorem gX8_copyCell_X8_whyNotPut : GoodIn wsX8_copyCell (wsV RX8 101 RX8 yX8_whyNotPut wsX8_whyNotPut) := goodIn_app (goodIn_of _ (by decide +kernel)) ggX8_copyCell_X8_whyNotPut
set_option maxRecDepth 20000 in
theorem ggX8_copyCell_X3_toldKind : GoodIn wsX8_copyCell wsX3_toldKind := goodIn_r _ [35] (by decide +kernel) (by decide +kernel)
set_option maxRecDepth 20000 in
theorem gX8_copyCell_X3_toldKind : GoodIn wsX8_copyCell (va_wsS RX8 79 yX3_toldKind wsX3_toldKind) := goodIn_app (goodIn_of _ (by decide +kernel)) ggX8_copyCell_X3_toldKind
set_option maxRecDepth 20000 in
theorem ggX8_copyCell_X8_store : GoodIn wsX8_copyCell wsX8_store := goodIn_r _ [47, 7, 1, 48, 49, 10, 50, 51, 52, 53, 54, 55, 56, 57, 58, 59, 60, 61, 62, 63, 64, 65, 66, 67, 68, 69, 70, 71, 72, 73, 74, 75, 76, 77, 78, 79, 80, 81, 82, 83] (by decide +kernel) (by decide +kernel)
set_option maxRecDepth 20000 in
theorem gX8_copyCell_X8_store : GoodIn wsX8_copyCell (wsV RX8 104 RX8 yX8_store wsX8_store) := goodIn_app (goodIn_of _ (by decide +kernel)) ggX8_copyCell_X8_store
theorem dX8_copyCell_0 : decode cX8_copyCell 0 = .ok (.aload_n 0, 1) := by decide +kernel
theorem dX8_copyCell_1 : decode cX8_copyCell 1 = .ok (.iload_n 1, 1) := by decide +kernel
theorem dX8_copyCell_2 : decode cX8_copyCell 2 = .ok (.iload_n 3, 1) := by decide +kernel
theorem dX8_copyCell_3 : decode cX8_copyCell 3 = .ok (.invokevirtual 93, 3) := by decide +kernel
theorem dX8_copyCell_6 : decode cX8_copyCell 6 = .ok (.lstore 4, 2) := by decide +kernel
theorem dX8_copyCell_8 : decode cX8_copyCell 8 = .ok (.aload_n 0, 1) := by decide +kernel
theorem dX8_copyCell_9 : decode cX8_copyCell 9 = .ok (.getfield 9, 3) := by decide +kernel
theorem dX8_copyCell_12 : decode cX8_copyCell 12 = .ok (.iload_n 1, 1) := by decide +kernel
theorem dX8_copyCell_13 : decode cX8_copyCell 13 = .ok (.iaload, 1) := by decide +kernel
theorem dX8_copyCell_14 : decode cX8_copyCell 14 = .ok (.lload 4, 2) := by decide +kernel
theorem dX8_copyCell_16 : decode cX8_copyCell 16 = .ok (.invokestatic 97, 3) := by decide +kernel
theorem dX8_copyCell_19 : decode cX8_copyCell 19 = .ok (.istore 6, 2) := by decide +kernel
theorem dX8_copyCell_21 : decode cX8_copyCell 21 = .ok (.aload_n 0, 1) := by decide +kernel
theorem dX8_copyCell_22 : decode cX8_copyCell 22 = .ok (.iload_n 2, 1) := by decide +kernel
theorem dX8_copyCell_23 : decode cX8_copyCell 23 = .ok (.iload_n 3, 1) := by decide +kernel
theorem dX8_copyCell_24 : decode cX8_copyCell 24 = .ok (.iload 6, 2) := by decide +kernel
theorem dX8_copyCell_26 : decode cX8_copyCell 26 = .ok (.invokevirtual 101, 3) := by decide +kernel
theorem dX8_copyCell_29 : decode cX8_copyCell 29 = .ok (.ifCond .eq 5, 3) := by decide +kernel
theorem dX8_copyCell_32 : decode cX8_copyCell 32 = .ok (.iconst 0, 1) := by decide +kernel
theorem dX8_copyCell_33 : decode cX8_copyCell 33 = .ok (.ireturn, 1) := by decide +kernel
theorem dX8_copyCell_34 : decode cX8_copyCell 34 = .ok (.aload_n 0, 1) := by decide +kernel
theorem dX8_copyCell_35 : decode cX8_copyCell 35 = .ok (.iload_n 2, 1) := by decide +kernel
theorem dX8_copyCell_36 : decode cX8_copyCell 36 = .ok (.iload_n 3, 1) := by decide +kernel
theorem dX8_copyCell_37 : decode cX8_copyCell 37 = .ok (.iload 6, 2) := by decide +kernel
theorem dX8_copyCell_39 : decode cX8_copyCell 39 = .ok (.invokestatic 79, 3) := by decide +kernel
theorem dX8_copyCell_42 : decode cX8_copyCell 42 = .ok (.lload 4, 2) := by decide +kernel
theorem dX8_copyCell_44 : decode cX8_copyCell 44 = .ok (.invokevirtual 104, 3) := by decide +kernel
theorem dX8_copyCell_47 : decode cX8_copyCell 47 = .ok (.iconst 1, 1) := by decide +kernel
theorem dX8_copyCell_48 : decode cX8_copyCell 48 = .ok (.ireturn, 1) := by decide +kernel
set_option maxRecDepth 20000 in
theorem ggX8_sameWorth_X8_cell : GoodIn wsX8_sameWorth wsX8_cell := goodIn_r _ [6, 7, 50, 51, 52, 53, 54] (by decide +kernel) (by decide +kernel)
set_option maxRecDepth 20000 in
theorem gX8_sameWorth_X8_cell : GoodIn wsX8_sameWorth (wsV RX8 93 RX8 yX8_cell wsX8_cell) := goodIn_app (goodIn_of _ (by decide +kernel)) ggX8_sameWorth_X8_cell
set_option maxRecDepth 20000 in
theorem ggX8_sameWorth_X3_sameWorth : GoodIn wsX8_sameWorth wsX3_sameWorth := goodIn_r _ [11, 12, 13, 10, 14, 15, 16, 17, 18, 19, 20, 21, 22, 23, 24, 25, 26, 27, 28, 29, 30, 31, 32, 33, 34, 35, 36, 37, 38, 39, 40, 41, 42, 43, 44, 45, 46, 47, 48, 49] (by decide +kernel) (by decide +kernel)
set_option maxRecDepth 20000 in
theorem gX8_sameWorth_X3_sameWorth : GoodIn wsX8_sameWorth (va_wsS RX8 108 yX3_sameWorth wsX3_sameWorth) := goodIn_app (goodIn_of _ (by decide +kernel)) ggX8_sameWorth_X3_sameWorth
theorem dX8_sameWorth_0 : decode cX8_sameWorth 0 = .ok (.aload_n 0, 1) := by decide +kernel
theorem dX8_sameWorth_1 : decode cX8_sameWorth 1 = .ok (.getfield 9, 3) := by decide +kernel
theorem dX8_sameWorth_4 : decode cX8_sameWorth 4 = .ok (.iload_n 1, 1) := by decide +kernel
theorem dX8_sameWorth_5 : decode cX8_sameWorth 5 = .ok (.iaload, 1) := by decide +kernel
theorem dX8_sameWorth_6 : decode cX8_sameWorth 6 = .ok (.aload_n 0, 1) := by decide +kernel
theorem dX8_sameWorth_7 : decode cX8_sameWorth 7 = .ok (.iload_n 1, 1) := by decide +kernel
theorem dX8_sameWorth_8 : decode cX8_sameWorth 8 = .ok (.iload_n 3, 1) := by decide +kernel
theorem dX8_sameWorth_9 : decode cX8_sameWorth 9 = .ok (.invokevirtual 93, 3) := by decide +kernel
theorem dX8_sameWorth_12 : decode cX8_sameWorth 12 = .ok (.aload_n 0, 1) := by decide +kernel
theorem dX8_sameWorth_13 : decode cX8_sameWorth 13 = .ok (.getfield 9, 3) := by decide +kernel
theorem dX8_sameWorth_16 : decode cX8_sameWorth 16 = .ok (.iload_n 2, 1) := by decide +kernel
theorem dX8_sameWorth_17 : decode cX8_sameWorth 17 = .ok (.iaload, 1) := by decide +kernel
theorem dX8_sameWorth_18 : decode cX8_sameWorth 18 = .ok (.aload_n 0, 1) := by decide +kernel
theorem dX8_sameWorth_19 : decode cX8_sameWorth 19 = .ok (.iload_n 2, 1) := by decide +kernel
theorem dX8_sameWorth_20 : decode cX8_sameWorth 20 = .ok (.iload_n 3, 1) := by decide +kernel
theorem dX8_sameWorth_21 : decode cX8_sameWorth 21 = .ok (.invokevirtual 93, 3) := by decide +kernel
theorem dX8_sameWorth_24 : decode cX8_sameWorth 24 = .ok (.invokestatic 108, 3) := by decide +kernel
theorem dX8_sameWorth_27 : decode cX8_sameWorth 27 = .ok (.ireturn, 1) := by decide +kernel
set_option maxRecDepth 20000 in
theorem ggX8_isLike_X8_cell : GoodIn wsX8_isLike wsX8_cell := goodIn_r _ [5, 6, 7, 8, 9, 10, 11] (by decide +kernel) (by decide +kernel)
set_option maxRecDepth 20000 in
theorem gX8_isLike_X8_cell : GoodIn wsX8_isLike (wsV RX8 93 RX8 yX8_cell wsX8_cell) := goodIn_app (goodIn_of _ (by decide +kernel)) ggX8_isLike_X8_cell
theorem dX8_isLike_0 : decode cX8_isLike 0 = .ok (.aload_n 0, 1) := by decide +kernel
theorem dX8_isLike_1 : decode cX8_isLike 1 = .ok (.iload_n 1, 1) := by decide +kernel
theorem dX8_isLike_2 : decode cX8_isLike 2 = .ok (.iload_n 2, 1) := by decide +kernel
theorem dX8_isLike_3 : decode cX8_isLike 3 = .ok (.invokevirtual 93, 3) := by decide +kernel
theorem dX8_isLike_6 : decode cX8_isLike 6 = .ok (.aload_n 0, 1) := by decide +kernel
theorem dX8_isLike_7 : decode cX8_isLike 7 = .ok (.iload_n 1, 1) := by decide +kernel
theorem dX8_isLike_8 : decode cX8_isLike 8 = .ok (.iload_n 3, 1) := by decide +kernel
theorem dX8_isLike_9 : decode cX8_isLike 9 = .ok (.invokevirtual 93, 3) := by decide +kernel
theorem dX8_isLike_12 : decode cX8_isLike 12 = .ok (.lcmp, 1) := by decide +kernel
theorem dX8_isLike_13 : decode cX8_isLike 13 = .ok (.ifCond .ne 7, 3) := by decide +kernel
theorem dX8_isLike_16 : decode cX8_isLike 16 = .ok (.iconst 1, 1) := by decide +kernel
theorem dX8_isLike_17 : decode cX8_isLike 17 = .ok (.goto 4, 3) := by decide +kernel
theorem dX8_isLike_20 : decode cX8_isLike 20 = .ok (.iconst 0, 1) := by decide +kernel
theorem dX8_isLike_21 : decode cX8_isLike 21 = .ok (.ireturn, 1) := by decide +kernel
set_option maxRecDepth 20000 in
theorem ggX8_isLikeInAll_X8_isProper : GoodIn wsX8_isLikeInAll wsX8_isProper := goodIn_r _ [6, 7, 8, 9, 10, 5, 11, 1, 21, 22, 23, 24, 25] (by decide +kernel) (by decide +kernel)
set_option maxRecDepth 20000 in
theorem gX8_isLikeInAll_X8_isProper : GoodIn wsX8_isLikeInAll (wsV RX8 63 RX8 yX8_isProper wsX8_isProper) := goodIn_app (goodIn_of _ (by decide +kernel)) ggX8_isLikeInAll_X8_isProper
set_option maxRecDepth 20000 in
theorem ggX8_isLikeInAll_X8_isLike : GoodIn wsX8_isLikeInAll wsX8_isLike := goodIn_r _ [15, 16, 17, 18, 5, 19, 20, 21, 22, 23, 24, 25] (by decide +kernel) (by decide +kernel)
set_option maxRecDepth 20000 in
theorem gX8_isLikeInAll_X8_isLike : GoodIn wsX8_isLikeInAll (wsV RX8 112 RX8 yX8_isLike wsX8_isLike) := goodIn_app (goodIn_of _ (by decide +kernel)) ggX8_isLikeInAll_X8_isLike
theorem dX8_isLikeInAll_0 : decode cX8_isLikeInAll 0 = .ok (.iconst 0, 1) := by decide +kernel
theorem dX8_isLikeInAll_1 : decode cX8_isLikeInAll 1 = .ok (.istore 4, 2) := by decide +kernel
theorem dX8_isLikeInAll_3 : decode cX8_isLikeInAll 3 = .ok (.iload 4, 2) := by decide +kernel
theorem dX8_isLikeInAll_5 : decode cX8_isLikeInAll 5 = .ok (.aload_n 0, 1) := by decide +kernel
theorem dX8_isLikeInAll_6 : decode cX8_isLikeInAll 6 = .ok (.getfield 28, 3) := by decide +kernel
theorem dX8_isLikeInAll_9 : decode cX8_isLikeInAll 9 = .ok (.if_icmp .ge 40, 3) := by decide +kernel
theorem dX8_isLikeInAll_12 : decode cX8_isLikeInAll 12 = .ok (.iload_n 1, 1) := by decide +kernel
theorem dX8_isLikeInAll_13 : decode cX8_isLikeInAll 13 = .ok (.iload 4, 2) := by decide +kernel
theorem dX8_isLikeInAll_15 : decode cX8_isLikeInAll 15 = .ok (.ishr, 1) := by decide +kernel
theorem dX8_isLikeInAll_16 : decode cX8_isLikeInAll 16 = .ok (.iconst 1, 1) := by decide +kernel
theorem dX8_isLikeInAll_17 : decode cX8_isLikeInAll 17 = .ok (.iand, 1) := by decide +kernel
theorem dX8_isLikeInAll_18 : decode cX8_isLikeInAll 18 = .ok (.ifCond .eq 25, 3) := by decide +kernel
theorem dX8_isLikeInAll_21 : decode cX8_isLikeInAll 21 = .ok (.aload_n 0, 1) := by decide +kernel
theorem dX8_isLikeInAll_22 : decode cX8_isLikeInAll 22 = .ok (.iload 4, 2) := by decide +kernel
theorem dX8_isLikeInAll_24 : decode cX8_isLikeInAll 24 = .ok (.invokevirtual 63, 3) := by decide +kernel
theorem dX8_isLikeInAll_27 : decode cX8_isLikeInAll 27 = .ok (.ifCond .eq 16, 3) := by decide +kernel
theorem dX8_isLikeInAll_30 : decode cX8_isLikeInAll 30 = .ok (.aload_n 0, 1) := by decide +kernel
theorem dX8_isLikeInAll_31 : decode cX8_isLikeInAll 31 = .ok (.iload 4, 2) := by decide +kernel
theorem dX8_isLikeInAll_33 : decode cX8_isLikeInAll 33 = .ok (.iload_n 2, 1) := by decide +kernel
theorem dX8_isLikeInAll_34 : decode cX8_isLikeInAll 34 = .ok (.iload_n 3, 1) := by decide +kernel
theorem dX8_isLikeInAll_35 : decode cX8_isLikeInAll 35 = .ok (.invokevirtual 112, 3) := by decide +kernel
theorem dX8_isLikeInAll_38 : decode cX8_isLikeInAll 38 = .ok (.ifCond .ne 5, 3) := by decide +kernel
theorem dX8_isLikeInAll_41 : decode cX8_isLikeInAll 41 = .ok (.iconst 0, 1) := by decide +kernel
theorem dX8_isLikeInAll_42 : decode cX8_isLikeInAll 42 = .ok (.ireturn, 1) := by decide +kernel
theorem dX8_isLikeInAll_43 : decode cX8_isLikeInAll 43 = .ok (.iinc 4 1, 3) := by decide +kernel
theorem dX8_isLikeInAll_46 : decode cX8_isLikeInAll 46 = .ok (.goto (-43), 3) := by decide +kernel
theorem dX8_isLikeInAll_49 : decode cX8_isLikeInAll 49 = .ok (.iconst 1, 1) := by decide +kernel
theorem dX8_isLikeInAll_50 : decode cX8_isLikeInAll 50 = .ok (.ireturn, 1) := by decide +kernel
set_option maxRecDepth 20000 in
theorem ggX8_unlikeCells_X8_isProper : GoodIn wsX8_unlikeCells wsX8_isProper := goodIn_r _ [6, 7, 8, 9, 10, 5, 11, 1, 21, 22, 23, 24, 25] (by decide +kernel) (by decide +kernel)
set_option maxRecDepth 20000 in
theorem gX8_unlikeCells_X8_isProper : GoodIn wsX8_unlikeCells (wsV RX8 63 RX8 yX8_isProper wsX8_isProper) := goodIn_app (goodIn_of _ (by decide +kernel)) ggX8_unlikeCells_X8_isProper
set_option maxRecDepth 20000 in
theorem ggX8_unlikeCells_X8_isLike : GoodIn wsX8_unlikeCells wsX8_isLike := goodIn_r _ [15, 16, 17, 18, 5, 19, 20, 21, 22, 23, 24, 25] (by decide +kernel) (by decide +kernel)
set_option maxRecDepth 20000 in
theorem gX8_unlikeCells_X8_isLike : GoodIn wsX8_unlikeCells (wsV RX8 112 RX8 yX8_isLike wsX8_isLike) := goodIn_app (goodIn_of _ (by decide +kernel)) ggX8_unlikeCells_X8_isLike
theorem dX8_unlikeCells_0 : decode cX8_unlikeCells 0 = .ok (.iconst 0, 1) := by decide +kernel
theorem dX8_unlikeCells_1 : decode cX8_unlikeCells 1 = .ok (.istore_n 3, 1) := by decide +kernel
theorem dX8_unlikeCells_2 : decode cX8_unlikeCells 2 = .ok (.iconst 0, 1) := by decide +kernel
theorem dX8_unlikeCells_3 : decode cX8_unlikeCells 3 = .ok (.istore 4, 2) := by decide +kernel
theorem dX8_unlikeCells_5 : decode cX8_unlikeCells 5 = .ok (.iload 4, 2) := by decide +kernel
theorem dX8_unlikeCells_7 : decode cX8_unlikeCells 7 = .ok (.aload_n 0, 1) := by decide +kernel
theorem dX8_unlikeCells_8 : decode cX8_unlikeCells 8 = .ok (.getfield 28, 3) := by decide +kernel
theorem dX8_unlikeCells_11 : decode cX8_unlikeCells 11 = .ok (.if_icmp .ge 32, 3) := by decide +kernel
theorem dX8_unlikeCells_14 : decode cX8_unlikeCells 14 = .ok (.aload_n 0, 1) := by decide +kernel
theorem dX8_unlikeCells_15 : decode cX8_unlikeCells 15 = .ok (.iload 4, 2) := by decide +kernel
theorem dX8_unlikeCells_17 : decode cX8_unlikeCells 17 = .ok (.invokevirtual 63, 3) := by decide +kernel
theorem dX8_unlikeCells_20 : decode cX8_unlikeCells 20 = .ok (.ifCond .eq 17, 3) := by decide +kernel
theorem dX8_unlikeCells_23 : decode cX8_unlikeCells 23 = .ok (.aload_n 0, 1) := by decide +kernel
theorem dX8_unlikeCells_24 : decode cX8_unlikeCells 24 = .ok (.iload 4, 2) := by decide +kernel
theorem dX8_unlikeCells_26 : decode cX8_unlikeCells 26 = .ok (.iload_n 1, 1) := by decide +kernel
theorem dX8_unlikeCells_27 : decode cX8_unlikeCells 27 = .ok (.iload_n 2, 1) := by decide +kernel
theorem dX8_unlikeCells_28 : decode cX8_unlikeCells 28 = .ok (.invokevirtual 112, 3) := by decide +kernel
theorem dX8_unlikeCells_31 : decode cX8_unlikeCells 31 = .ok (.ifCond .ne 6, 3) := by decide +kernel
theorem dX8_unlikeCells_34 : decode cX8_unlikeCells 34 = .ok (.iinc 3 1, 3) := by decide +kernel
theorem dX8_unlikeCells_37 : decode cX8_unlikeCells 37 = .ok (.iinc 4 1, 3) := by decide +kernel
theorem dX8_unlikeCells_40 : decode cX8_unlikeCells 40 = .ok (.goto (-35), 3) := by decide +kernel
theorem dX8_unlikeCells_43 : decode cX8_unlikeCells 43 = .ok (.iload_n 3, 1) := by decide +kernel
theorem dX8_unlikeCells_44 : decode cX8_unlikeCells 44 = .ok (.ireturn, 1) := by decide +kernel
set_option maxRecDepth 20000 in
theorem ggX8_beginsRun_X8_isLike : GoodIn wsX8_beginsRun wsX8_isLike := goodIn_r _ [5, 6, 7, 8, 4, 9, 10, 11, 12, 13, 14, 15] (by decide +kernel) (by decide +kernel)
set_option maxRecDepth 20000 in
theorem gX8_beginsRun_X8_isLike : GoodIn wsX8_beginsRun (wsV RX8 112 RX8 yX8_isLike wsX8_isLike) := goodIn_app (goodIn_of _ (by decide +kernel)) ggX8_beginsRun_X8_isLike
theorem dX8_beginsRun_0 : decode cX8_beginsRun 0 = .ok (.iload_n 2, 1) := by decide +kernel
theorem dX8_beginsRun_1 : decode cX8_beginsRun 1 = .ok (.ifCond .eq 15, 3) := by decide +kernel
theorem dX8_beginsRun_4 : decode cX8_beginsRun 4 = .ok (.aload_n 0, 1) := by decide +kernel
theorem dX8_beginsRun_5 : decode cX8_beginsRun 5 = .ok (.iload_n 1, 1) := by decide +kernel
theorem dX8_beginsRun_6 : decode cX8_beginsRun 6 = .ok (.iload_n 2, 1) := by decide +kernel
theorem dX8_beginsRun_7 : decode cX8_beginsRun 7 = .ok (.iconst 1, 1) := by decide +kernel
theorem dX8_beginsRun_8 : decode cX8_beginsRun 8 = .ok (.isub, 1) := by decide +kernel
theorem dX8_beginsRun_9 : decode cX8_beginsRun 9 = .ok (.iload_n 2, 1) := by decide +kernel
theorem dX8_beginsRun_10 : decode cX8_beginsRun 10 = .ok (.invokevirtual 112, 3) := by decide +kernel
theorem dX8_beginsRun_13 : decode cX8_beginsRun 13 = .ok (.ifCond .ne 7, 3) := by decide +kernel
theorem dX8_beginsRun_16 : decode cX8_beginsRun 16 = .ok (.iconst 1, 1) := by decide +kernel
theorem dX8_beginsRun_17 : decode cX8_beginsRun 17 = .ok (.goto 4, 3) := by decide +kernel
theorem dX8_beginsRun_20 : decode cX8_beginsRun 20 = .ok (.iconst 0, 1) := by decide +kernel
theorem dX8_beginsRun_21 : decode cX8_beginsRun 21 = .ok (.ireturn, 1) := by decide +kernel
set_option maxRecDepth 20000 in
theorem ggX8_runsOf_X8_beginsRun : GoodIn wsX8_runsOf wsX8_beginsRun := goodIn_r _ [6, 7, 8, 9, 5, 10, 11, 12, 13, 14, 15, 16, 17, 18, 19, 20] (by decide +kernel) (by decide +kernel)
set_option maxRecDepth 20000 in
theorem gX8_runsOf_X8_beginsRun : GoodIn wsX8_runsOf (wsV RX8 116 RX8 yX8_beginsRun wsX8_beginsRun) := goodIn_app (goodIn_of _ (by decide +kernel)) ggX8_runsOf_X8_beginsRun
theorem dX8_runsOf_0 : decode cX8_runsOf 0 = .ok (.iconst 0, 1) := by decide +kernel
theorem dX8_runsOf_1 : decode cX8_runsOf 1 = .ok (.istore_n 2, 1) := by decide +kernel
theorem dX8_runsOf_2 : decode cX8_runsOf 2 = .ok (.iconst 0, 1) := by decide +kernel
theorem dX8_runsOf_3 : decode cX8_runsOf 3 = .ok (.istore_n 3, 1) := by decide +kernel
theorem dX8_runsOf_4 : decode cX8_runsOf 4 = .ok (.iload_n 3, 1) := by decide +kernel
theorem dX8_runsOf_5 : decode cX8_runsOf 5 = .ok (.aload_n 0, 1) := by decide +kernel
theorem dX8_runsOf_6 : decode cX8_runsOf 6 = .ok (.getfield 32, 3) := by decide +kernel
theorem dX8_runsOf_9 : decode cX8_runsOf 9 = .ok (.if_icmp .ge 21, 3) := by decide +kernel
theorem dX8_runsOf_12 : decode cX8_runsOf 12 = .ok (.aload_n 0, 1) := by decide +kernel
theorem dX8_runsOf_13 : decode cX8_runsOf 13 = .ok (.iload_n 1, 1) := by decide +kernel
theorem dX8_runsOf_14 : decode cX8_runsOf 14 = .ok (.iload_n 3, 1) := by decide +kernel
theorem dX8_runsOf_15 : decode cX8_runsOf 15 = .ok (.invokevirtual 116, 3) := by decide +kernel
theorem dX8_runsOf_18 : decode cX8_runsOf 18 = .ok (.ifCond .eq 6, 3) := by decide +kernel
theorem dX8_runsOf_21 : decode cX8_runsOf 21 = .ok (.iinc 2 1, 3) := by decide +kernel
theorem dX8_runsOf_24 : decode cX8_runsOf 24 = .ok (.iinc 3 1, 3) := by decide +kernel
theorem dX8_runsOf_27 : decode cX8_runsOf 27 = .ok (.goto (-23), 3) := by decide +kernel
theorem dX8_runsOf_30 : decode cX8_runsOf 30 = .ok (.iload_n 2, 1) := by decide +kernel
theorem dX8_runsOf_31 : decode cX8_runsOf 31 = .ok (.ireturn, 1) := by decide +kernel
set_option maxRecDepth 20000 in
theorem ggX8_runsOfAll_X8_isProper : GoodIn wsX8_runsOfAll wsX8_isProper := goodIn_r _ [6, 7, 8, 9, 10, 5, 11, 1, 30, 31, 32, 33, 34] (by decide +kernel) (by decide +kernel)
set_option maxRecDepth 20000 in
theorem gX8_runsOfAll_X8_isProper : GoodIn wsX8_runsOfAll (wsV RX8 63 RX8 yX8_isProper wsX8_isProper) := goodIn_app (goodIn_of _ (by decide +kernel)) ggX8_runsOfAll_X8_isProper
set_option maxRecDepth 20000 in
theorem ggX8_runsOfAll_X8_runsOf : GoodIn wsX8_runsOfAll wsX8_runsOf := goodIn_r _ [15, 16, 17, 18, 19, 5, 20, 21, 22, 23, 24, 25, 26, 27, 28, 29, 30, 31, 32, 33, 34] (by decide +kernel) (by decide +kernel)
set_option maxRecDepth 20000 in
theorem gX8_runsOfAll_X8_runsOf : GoodIn wsX8_runsOfAll (wsV RX8 119 RX8 yX8_runsOf wsX8_runsOf) := goodIn_app (goodIn_of _ (by decide +kernel)) ggX8_runsOfAll_X8_runsOf
theorem dX8_runsOfAll_0 : decode cX8_runsOfAll 0 = .ok (.iconst 0, 1) := by decide +kernel
theorem dX8_runsOfAll_1 : decode cX8_runsOfAll 1 = .ok (.istore_n 1, 1) := by decide +kernel
theorem dX8_runsOfAll_2 : decode cX8_runsOfAll 2 = .ok (.iconst 0, 1) := by decide +kernel
theorem dX8_runsOfAll_3 : decode cX8_runsOfAll 3 = .ok (.istore_n 2, 1) := by decide +kernel
theorem dX8_runsOfAll_4 : decode cX8_runsOfAll 4 = .ok (.iload_n 2, 1) := by decide +kernel
theorem dX8_runsOfAll_5 : decode cX8_runsOfAll 5 = .ok (.aload_n 0, 1) := by decide +kernel
theorem dX8_runsOfAll_6 : decode cX8_runsOfAll 6 = .ok (.getfield 28, 3) := by decide +kernel
theorem dX8_runsOfAll_9 : decode cX8_runsOfAll 9 = .ok (.if_icmp .ge 25, 3) := by decide +kernel
theorem dX8_runsOfAll_12 : decode cX8_runsOfAll 12 = .ok (.aload_n 0, 1) := by decide +kernel
theorem dX8_runsOfAll_13 : decode cX8_runsOfAll 13 = .ok (.iload_n 2, 1) := by decide +kernel
theorem dX8_runsOfAll_14 : decode cX8_runsOfAll 14 = .ok (.invokevirtual 63, 3) := by decide +kernel
theorem dX8_runsOfAll_17 : decode cX8_runsOfAll 17 = .ok (.ifCond .eq 11, 3) := by decide +kernel
theorem dX8_runsOfAll_20 : decode cX8_runsOfAll 20 = .ok (.iload_n 1, 1) := by decide +kernel
theorem dX8_runsOfAll_21 : decode cX8_runsOfAll 21 = .ok (.aload_n 0, 1) := by decide +kernel
theorem dX8_runsOfAll_22 : decode cX8_runsOfAll 22 = .ok (.iload_n 2, 1) := by decide +kernel
theorem dX8_runsOfAll_23 : decode cX8_runsOfAll 23 = .ok (.invokevirtual 119, 3) := by decide +kernel
theorem dX8_runsOfAll_26 : decode cX8_runsOfAll 26 = .ok (.iadd, 1) := by decide +kernel
theorem dX8_runsOfAll_27 : decode cX8_runsOfAll 27 = .ok (.istore_n 1, 1) := by decide +kernel
theorem dX8_runsOfAll_28 : decode cX8_runsOfAll 28 = .ok (.iinc 2 1, 3) := by decide +kernel
theorem dX8_runsOfAll_31 : decode cX8_runsOfAll 31 = .ok (.goto (-27), 3) := by decide +kernel
theorem dX8_runsOfAll_34 : decode cX8_runsOfAll 34 = .ok (.iload_n 1, 1) := by decide +kernel
theorem dX8_runsOfAll_35 : decode cX8_runsOfAll 35 = .ok (.ireturn, 1) := by decide +kernel
set_option maxRecDepth 20000 in
theorem ggX8_cellsOfNothing_X3_mayBeNothing : GoodIn wsX8_cellsOfNothing wsX3_mayBeNothing := goodIn_r _ [6] (by decide +kernel) (by decide +kernel)
set_option maxRecDepth 20000 in
theorem gX8_cellsOfNothing_X3_mayBeNothing : GoodIn wsX8_cellsOfNothing (va_wsS RX8 54 yX3_mayBeNothing wsX3_mayBeNothing) := goodIn_app (goodIn_of _ (by decide +kernel)) ggX8_cellsOfNothing_X3_mayBeNothing
set_option maxRecDepth 20000 in
theorem ggX8_cellsOfNothing_X8_nothingIn : GoodIn wsX8_cellsOfNothing wsX8_nothingIn := goodIn_r _ [11, 12, 13, 14, 15, 16, 10, 17, 18, 19, 20, 21, 22, 23] (by decide +kernel) (by decide +kernel)
set_option maxRecDepth 20000 in
theorem gX8_cellsOfNothing_X8_nothingIn : GoodIn wsX8_cellsOfNothing (wsV RX8 122 RX8 yX8_nothingIn wsX8_nothingIn) := goodIn_app (goodIn_of _ (by decide +kernel)) ggX8_cellsOfNothing_X8_nothingIn
theorem dX8_cellsOfNothing_0 : decode cX8_cellsOfNothing 0 = .ok (.iconst 0, 1) := by decide +kernel
theorem dX8_cellsOfNothing_1 : decode cX8_cellsOfNothing 1 = .ok (.istore_n 1, 1) := by decide +kernel
theorem dX8_cellsOfNothing_2 : decode cX8_cellsOfNothing 2 = .ok (.iconst 0, 1) := by decide +kernel
theorem dX8_cellsOfNothing_3 : decode cX8_cellsOfNothing 3 = .ok (.istore_n 2, 1) := by decide +kernel
theorem dX8_cellsOfNothing_4 : decode cX8_cellsOfNothing 4 = .ok (.iload_n 2, 1) := by decide +kernel
theorem dX8_cellsOfNothing_5 : decode cX8_cellsOfNothing 5 = .ok (.aload_n 0, 1) := by decide +kernel
theorem dX8_cellsOfNothing_6 : decode cX8_cellsOfNothing 6 = .ok (.getfield 28, 3) := by decide +kernel
theorem dX8_cellsOfNothing_9 : decode cX8_cellsOfNothing 9 = .ok (.if_icmp .ge 29, 3) := by decide +kernel
theorem dX8_cellsOfNothing_12 : decode cX8_cellsOfNothing 12 = .ok (.aload_n 0, 1) := by decide +kernel
theorem dX8_cellsOfNothing_13 : decode cX8_cellsOfNothing 13 = .ok (.getfield 9, 3) := by decide +kernel
theorem dX8_cellsOfNothing_16 : decode cX8_cellsOfNothing 16 = .ok (.iload_n 2, 1) := by decide +kernel
theorem dX8_cellsOfNothing_17 : decode cX8_cellsOfNothing 17 = .ok (.iaload, 1) := by decide +kernel
theorem dX8_cellsOfNothing_18 : decode cX8_cellsOfNothing 18 = .ok (.invokestatic 54, 3) := by decide +kernel
theorem dX8_cellsOfNothing_21 : decode cX8_cellsOfNothing 21 = .ok (.ifCond .eq 11, 3) := by decide +kernel
theorem dX8_cellsOfNothing_24 : decode cX8_cellsOfNothing 24 = .ok (.iload_n 1, 1) := by decide +kernel
theorem dX8_cellsOfNothing_25 : decode cX8_cellsOfNothing 25 = .ok (.aload_n 0, 1) := by decide +kernel
theorem dX8_cellsOfNothing_26 : decode cX8_cellsOfNothing 26 = .ok (.iload_n 2, 1) := by decide +kernel
theorem dX8_cellsOfNothing_27 : decode cX8_cellsOfNothing 27 = .ok (.invokevirtual 122, 3) := by decide +kernel
theorem dX8_cellsOfNothing_30 : decode cX8_cellsOfNothing 30 = .ok (.iadd, 1) := by decide +kernel
theorem dX8_cellsOfNothing_31 : decode cX8_cellsOfNothing 31 = .ok (.istore_n 1, 1) := by decide +kernel
theorem dX8_cellsOfNothing_32 : decode cX8_cellsOfNothing 32 = .ok (.iinc 2 1, 3) := by decide +kernel
theorem dX8_cellsOfNothing_35 : decode cX8_cellsOfNothing 35 = .ok (.goto (-31), 3) := by decide +kernel
theorem dX8_cellsOfNothing_38 : decode cX8_cellsOfNothing 38 = .ok (.iload_n 1, 1) := by decide +kernel
theorem dX8_cellsOfNothing_39 : decode cX8_cellsOfNothing 39 = .ok (.ireturn, 1) := by decide +kernel
set_option maxRecDepth 20000 in
theorem ggX8_nothingIn_X8_cell : GoodIn wsX8_nothingIn wsX8_cell := goodIn_r _ [7, 8, 9, 10, 11, 12, 13] (by decide +kernel) (by decide +kernel)
set_option maxRecDepth 20000 in
theorem gX8_nothingIn_X8_cell : GoodIn wsX8_nothingIn (wsV RX8 93 RX8 yX8_cell wsX8_cell) := goodIn_app (goodIn_of _ (by decide +kernel)) ggX8_nothingIn_X8_cell
theorem dX8_nothingIn_0 : decode cX8_nothingIn 0 = .ok (.iconst 0, 1) := by decide +kernel
theorem dX8_nothingIn_1 : decode cX8_nothingIn 1 = .ok (.istore_n 2, 1) := by decide +kernel
theorem dX8_nothingIn_2 : decode cX8_nothingIn 2 = .ok (.iconst 0, 1) := by decide +kernel
theorem dX8_nothingIn_3 : decode cX8_nothingIn 3 = .ok (.istore_n 3, 1) := by decide +kernel
theorem dX8_nothingIn_4 : decode cX8_nothingIn 4 = .ok (.iload_n 3, 1) := by decide +kernel
theorem dX8_nothingIn_5 : decode cX8_nothingIn 5 = .ok (.aload_n 0, 1) := by decide +kernel
theorem dX8_nothingIn_6 : decode cX8_nothingIn 6 = .ok (.getfield 32, 3) := by decide +kernel
theorem dX8_nothingIn_9 : decode cX8_nothingIn 9 = .ok (.if_icmp .ge 25, 3) := by decide +kernel
theorem dX8_nothingIn_12 : decode cX8_nothingIn 12 = .ok (.aload_n 0, 1) := by decide +kernel
theorem dX8_nothingIn_13 : decode cX8_nothingIn 13 = .ok (.iload_n 1, 1) := by decide +kernel
theorem dX8_nothingIn_14 : decode cX8_nothingIn 14 = .ok (.iload_n 3, 1) := by decide +kernel
theorem dX8_nothingIn_15 : decode cX8_nothingIn 15 = .ok (.invokevirtual 93, 3) := by decide +kernel
theorem dX8_nothingIn_18 : decode cX8_nothingIn 18 = .ok (.ldc2_w 58, 3) := by decide +kernel
theorem dX8_nothingIn_21 : decode cX8_nothingIn 21 = .ok (.lcmp, 1) := by decide +kernel
theorem dX8_nothingIn_22 : decode cX8_nothingIn 22 = .ok (.ifCond .ne 6, 3) := by decide +kernel
theorem dX8_nothingIn_25 : decode cX8_nothingIn 25 = .ok (.iinc 2 1, 3) := by decide +kernel
theorem dX8_nothingIn_28 : decode cX8_nothingIn 28 = .ok (.iinc 3 1, 3) := by decide +kernel
theorem dX8_nothingIn_31 : decode cX8_nothingIn 31 = .ok (.goto (-27), 3) := by decide +kernel
theorem dX8_nothingIn_34 : decode cX8_nothingIn 34 = .ok (.iload_n 2, 1) := by decide +kernel
theorem dX8_nothingIn_35 : decode cX8_nothingIn 35 = .ok (.ireturn, 1) := by decide +kernel
