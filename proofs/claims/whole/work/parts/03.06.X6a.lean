theorem dX6_init_0 : decode cX6_init 0 = .ok (.aload_n 0, 1) := by decide +kernel
theorem dX6_init_1 : decode cX6_init 1 = .ok (.invokespecial 3, 3) := by decide +kernel
theorem dX6_init_4 : decode cX6_init 4 = .ok (.aload_n 0, 1) := by decide +kernel
theorem dX6_init_5 : decode cX6_init 5 = .ok (.bipush 6, 2) := by decide +kernel
theorem dX6_init_7 : decode cX6_init 7 = .ok (.newarray .int, 2) := by decide +kernel
theorem dX6_init_9 : decode cX6_init 9 = .ok (.putfield 9, 3) := by decide +kernel
theorem dX6_init_12 : decode cX6_init 12 = .ok (.aload_n 0, 1) := by decide +kernel
theorem dX6_init_13 : decode cX6_init 13 = .ok (.bipush 96, 2) := by decide +kernel
theorem dX6_init_15 : decode cX6_init 15 = .ok (.newarray .int, 2) := by decide +kernel
theorem dX6_init_17 : decode cX6_init 17 = .ok (.putfield 15, 3) := by decide +kernel
theorem dX6_init_20 : decode cX6_init 20 = .ok (.aload_n 0, 1) := by decide +kernel
theorem dX6_init_21 : decode cX6_init 21 = .ok (.bipush 16, 2) := by decide +kernel
theorem dX6_init_23 : decode cX6_init 23 = .ok (.newarray .long, 2) := by decide +kernel
theorem dX6_init_25 : decode cX6_init 25 = .ok (.putfield 18, 3) := by decide +kernel
theorem dX6_init_28 : decode cX6_init 28 = .ok (.aload_n 0, 1) := by decide +kernel
theorem dX6_init_29 : decode cX6_init 29 = .ok (.bipush 16, 2) := by decide +kernel
theorem dX6_init_31 : decode cX6_init 31 = .ok (.newarray .boolean, 2) := by decide +kernel
theorem dX6_init_33 : decode cX6_init 33 = .ok (.putfield 22, 3) := by decide +kernel
theorem dX6_init_36 : decode cX6_init 36 = .ok (.return_, 1) := by decide +kernel
theorem dX6_of_0 : decode cX6_of 0 = .ok (.aload_n 0, 1) := by decide +kernel
theorem dX6_of_1 : decode cX6_of 1 = .ok (.getfield 15, 3) := by decide +kernel
theorem dX6_of_4 : decode cX6_of 4 = .ok (.iload_n 1, 1) := by decide +kernel
theorem dX6_of_5 : decode cX6_of 5 = .ok (.bipush 16, 2) := by decide +kernel
theorem dX6_of_7 : decode cX6_of 7 = .ok (.imul, 1) := by decide +kernel
theorem dX6_of_8 : decode cX6_of 8 = .ok (.iload_n 2, 1) := by decide +kernel
theorem dX6_of_9 : decode cX6_of 9 = .ok (.iadd, 1) := by decide +kernel
theorem dX6_of_10 : decode cX6_of 10 = .ok (.iaload, 1) := by decide +kernel
theorem dX6_of_11 : decode cX6_of 11 = .ok (.ireturn, 1) := by decide +kernel
set_option maxRecDepth 20000 in
theorem ggX6_readAll_X8_isProper : GoodIn wsX6_readAll wsX8_isProper := goodIn_r _ [6, 7, 8, 9, 10, 5, 11, 12, 49, 50, 51, 52, 53] (by decide +kernel) (by decide +kernel)
set_option maxRecDepth 20000 in
theorem gX6_readAll_X8_isProper : GoodIn wsX6_readAll (wsV RX6 32 RX8 yX8_isProper wsX8_isProper) := goodIn_app (goodIn_of _ (by decide +kernel)) ggX6_readAll_X8_isProper
set_option maxRecDepth 20000 in
theorem ggX6_readAll_X6_readColumn : GoodIn wsX6_readAll wsX6_readColumn := goodIn_r _ [17, 18, 19, 20, 21, 22, 23, 24, 25, 26, 5, 27, 28, 29, 30, 31, 32, 33, 34, 35, 36, 37, 38, 39, 40, 41, 42, 43, 16, 44, 45, 46, 47, 48, 49, 50, 51, 52, 53, 54, 55, 56, 57] (by decide +kernel) (by decide +kernel)
set_option maxRecDepth 20000 in
theorem gX6_readAll_X6_readColumn : GoodIn wsX6_readAll (wsV RX6 36 RX6 yX6_readColumn wsX6_readColumn) := goodIn_app (goodIn_of _ (by decide +kernel)) ggX6_readAll_X6_readColumn
theorem dX6_readAll_0 : decode cX6_readAll 0 = .ok (.iconst 0, 1) := by decide +kernel
theorem dX6_readAll_1 : decode cX6_readAll 1 = .ok (.istore_n 2, 1) := by decide +kernel
theorem dX6_readAll_2 : decode cX6_readAll 2 = .ok (.iload_n 2, 1) := by decide +kernel
theorem dX6_readAll_3 : decode cX6_readAll 3 = .ok (.aload_n 1, 1) := by decide +kernel
theorem dX6_readAll_4 : decode cX6_readAll 4 = .ok (.getfield 26, 3) := by decide +kernel
theorem dX6_readAll_7 : decode cX6_readAll 7 = .ok (.if_icmp .ge 23, 3) := by decide +kernel
theorem dX6_readAll_10 : decode cX6_readAll 10 = .ok (.aload_n 1, 1) := by decide +kernel
theorem dX6_readAll_11 : decode cX6_readAll 11 = .ok (.iload_n 2, 1) := by decide +kernel
theorem dX6_readAll_12 : decode cX6_readAll 12 = .ok (.invokevirtual 32, 3) := by decide +kernel
theorem dX6_readAll_15 : decode cX6_readAll 15 = .ok (.ifCond .eq 9, 3) := by decide +kernel
theorem dX6_readAll_18 : decode cX6_readAll 18 = .ok (.aload_n 0, 1) := by decide +kernel
theorem dX6_readAll_19 : decode cX6_readAll 19 = .ok (.aload_n 1, 1) := by decide +kernel
theorem dX6_readAll_20 : decode cX6_readAll 20 = .ok (.iload_n 2, 1) := by decide +kernel
theorem dX6_readAll_21 : decode cX6_readAll 21 = .ok (.invokevirtual 36, 3) := by decide +kernel
theorem dX6_readAll_24 : decode cX6_readAll 24 = .ok (.iinc 2 1, 3) := by decide +kernel
theorem dX6_readAll_27 : decode cX6_readAll 27 = .ok (.goto (-25), 3) := by decide +kernel
theorem dX6_readAll_30 : decode cX6_readAll 30 = .ok (.return_, 1) := by decide +kernel
set_option maxRecDepth 20000 in
theorem ggX6_readColumn_X8_cell : GoodIn wsX6_readColumn wsX8_cell := goodIn_r _ [11, 12, 34, 35, 36, 37, 38] (by decide +kernel) (by decide +kernel)
set_option maxRecDepth 20000 in
theorem gX6_readColumn_X8_cell : GoodIn wsX6_readColumn (wsV RX6 46 RX8 yX8_cell wsX8_cell) := goodIn_app (goodIn_of _ (by decide +kernel)) ggX6_readColumn_X8_cell
set_option maxRecDepth 20000 in
theorem ggX6_readColumn_X3_weight : GoodIn wsX6_readColumn wsX3_weight := goodIn_r _ [16, 17, 18, 19, 20, 21, 22, 23, 15, 24] (by decide +kernel) (by decide +kernel)
set_option maxRecDepth 20000 in
theorem gX6_readColumn_X3_weight : GoodIn wsX6_readColumn (va_wsS RX6 50 yX3_weight wsX3_weight) := goodIn_app (goodIn_of _ (by decide +kernel)) ggX6_readColumn_X3_weight
set_option maxRecDepth 20000 in
theorem ggX6_readColumn_X6_isNew : GoodIn wsX6_readColumn wsX6_isNew := goodIn_r _ [29, 2, 39, 40, 41, 42] (by decide +kernel) (by decide +kernel)
set_option maxRecDepth 20000 in
theorem gX6_readColumn_X6_isNew : GoodIn wsX6_readColumn (wsV RX6 56 RX6 yX6_isNew wsX6_isNew) := goodIn_app (goodIn_of _ (by decide +kernel)) ggX6_readColumn_X6_isNew
set_option maxRecDepth 20000 in
theorem ggX6_readColumn_X6_lesserOnes : GoodIn wsX6_readColumn wsX6_lesserOnes := goodIn_r _ [33, 5, 2, 39, 40, 41, 42] (by decide +kernel) (by decide +kernel)
set_option maxRecDepth 20000 in
theorem gX6_readColumn_X6_lesserOnes : GoodIn wsX6_readColumn (wsV RX6 59 RX6 yX6_lesserOnes wsX6_lesserOnes) := goodIn_app (goodIn_of _ (by decide +kernel)) ggX6_readColumn_X6_lesserOnes
theorem dX6_readColumn_0 : decode cX6_readColumn 0 = .ok (.iconst 0, 1) := by decide +kernel
theorem dX6_readColumn_1 : decode cX6_readColumn 1 = .ok (.istore_n 3, 1) := by decide +kernel
theorem dX6_readColumn_2 : decode cX6_readColumn 2 = .ok (.iload_n 3, 1) := by decide +kernel
theorem dX6_readColumn_3 : decode cX6_readColumn 3 = .ok (.aload_n 1, 1) := by decide +kernel
theorem dX6_readColumn_4 : decode cX6_readColumn 4 = .ok (.getfield 40, 3) := by decide +kernel
theorem dX6_readColumn_7 : decode cX6_readColumn 7 = .ok (.if_icmp .ge 30, 3) := by decide +kernel
theorem dX6_readColumn_10 : decode cX6_readColumn 10 = .ok (.aload_n 0, 1) := by decide +kernel
theorem dX6_readColumn_11 : decode cX6_readColumn 11 = .ok (.getfield 18, 3) := by decide +kernel
theorem dX6_readColumn_14 : decode cX6_readColumn 14 = .ok (.iload_n 3, 1) := by decide +kernel
theorem dX6_readColumn_15 : decode cX6_readColumn 15 = .ok (.aload_n 1, 1) := by decide +kernel
theorem dX6_readColumn_16 : decode cX6_readColumn 16 = .ok (.getfield 43, 3) := by decide +kernel
theorem dX6_readColumn_19 : decode cX6_readColumn 19 = .ok (.iload_n 2, 1) := by decide +kernel
theorem dX6_readColumn_20 : decode cX6_readColumn 20 = .ok (.iaload, 1) := by decide +kernel
theorem dX6_readColumn_21 : decode cX6_readColumn 21 = .ok (.aload_n 1, 1) := by decide +kernel
theorem dX6_readColumn_22 : decode cX6_readColumn 22 = .ok (.iload_n 2, 1) := by decide +kernel
theorem dX6_readColumn_23 : decode cX6_readColumn 23 = .ok (.iload_n 3, 1) := by decide +kernel
theorem dX6_readColumn_24 : decode cX6_readColumn 24 = .ok (.invokevirtual 46, 3) := by decide +kernel
theorem dX6_readColumn_27 : decode cX6_readColumn 27 = .ok (.invokestatic 50, 3) := by decide +kernel
theorem dX6_readColumn_30 : decode cX6_readColumn 30 = .ok (.lastore, 1) := by decide +kernel
theorem dX6_readColumn_31 : decode cX6_readColumn 31 = .ok (.iinc 3 1, 3) := by decide +kernel
theorem dX6_readColumn_34 : decode cX6_readColumn 34 = .ok (.goto (-32), 3) := by decide +kernel
theorem dX6_readColumn_37 : decode cX6_readColumn 37 = .ok (.aload_n 0, 1) := by decide +kernel
theorem dX6_readColumn_38 : decode cX6_readColumn 38 = .ok (.getfield 9, 3) := by decide +kernel
theorem dX6_readColumn_41 : decode cX6_readColumn 41 = .ok (.iload_n 2, 1) := by decide +kernel
theorem dX6_readColumn_42 : decode cX6_readColumn 42 = .ok (.iconst 0, 1) := by decide +kernel
theorem dX6_readColumn_43 : decode cX6_readColumn 43 = .ok (.iastore, 1) := by decide +kernel
theorem dX6_readColumn_44 : decode cX6_readColumn 44 = .ok (.iconst 0, 1) := by decide +kernel
theorem dX6_readColumn_45 : decode cX6_readColumn 45 = .ok (.istore_n 3, 1) := by decide +kernel
theorem dX6_readColumn_46 : decode cX6_readColumn 46 = .ok (.iload_n 3, 1) := by decide +kernel
theorem dX6_readColumn_47 : decode cX6_readColumn 47 = .ok (.aload_n 1, 1) := by decide +kernel
theorem dX6_readColumn_48 : decode cX6_readColumn 48 = .ok (.getfield 40, 3) := by decide +kernel
theorem dX6_readColumn_51 : decode cX6_readColumn 51 = .ok (.if_icmp .ge 39, 3) := by decide +kernel
theorem dX6_readColumn_54 : decode cX6_readColumn 54 = .ok (.aload_n 0, 1) := by decide +kernel
theorem dX6_readColumn_55 : decode cX6_readColumn 55 = .ok (.getfield 22, 3) := by decide +kernel
theorem dX6_readColumn_58 : decode cX6_readColumn 58 = .ok (.iload_n 3, 1) := by decide +kernel
theorem dX6_readColumn_59 : decode cX6_readColumn 59 = .ok (.aload_n 0, 1) := by decide +kernel
theorem dX6_readColumn_60 : decode cX6_readColumn 60 = .ok (.iload_n 3, 1) := by decide +kernel
theorem dX6_readColumn_61 : decode cX6_readColumn 61 = .ok (.invokevirtual 56, 3) := by decide +kernel
theorem dX6_readColumn_64 : decode cX6_readColumn 64 = .ok (.bastore, 1) := by decide +kernel
theorem dX6_readColumn_65 : decode cX6_readColumn 65 = .ok (.aload_n 0, 1) := by decide +kernel
theorem dX6_readColumn_66 : decode cX6_readColumn 66 = .ok (.getfield 22, 3) := by decide +kernel
theorem dX6_readColumn_69 : decode cX6_readColumn 69 = .ok (.iload_n 3, 1) := by decide +kernel
theorem dX6_readColumn_70 : decode cX6_readColumn 70 = .ok (.baload, 1) := by decide +kernel
theorem dX6_readColumn_71 : decode cX6_readColumn 71 = .ok (.ifCond .eq 13, 3) := by decide +kernel
theorem dX6_readColumn_74 : decode cX6_readColumn 74 = .ok (.aload_n 0, 1) := by decide +kernel
theorem dX6_readColumn_75 : decode cX6_readColumn 75 = .ok (.getfield 9, 3) := by decide +kernel
theorem dX6_readColumn_78 : decode cX6_readColumn 78 = .ok (.iload_n 2, 1) := by decide +kernel
theorem dX6_readColumn_79 : decode cX6_readColumn 79 = .ok (.dup2, 1) := by decide +kernel
theorem dX6_readColumn_80 : decode cX6_readColumn 80 = .ok (.iaload, 1) := by decide +kernel
theorem dX6_readColumn_81 : decode cX6_readColumn 81 = .ok (.iconst 1, 1) := by decide +kernel
theorem dX6_readColumn_82 : decode cX6_readColumn 82 = .ok (.iadd, 1) := by decide +kernel
theorem dX6_readColumn_83 : decode cX6_readColumn 83 = .ok (.iastore, 1) := by decide +kernel
theorem dX6_readColumn_84 : decode cX6_readColumn 84 = .ok (.iinc 3 1, 3) := by decide +kernel
theorem dX6_readColumn_87 : decode cX6_readColumn 87 = .ok (.goto (-41), 3) := by decide +kernel
theorem dX6_readColumn_90 : decode cX6_readColumn 90 = .ok (.iconst 0, 1) := by decide +kernel
theorem dX6_readColumn_91 : decode cX6_readColumn 91 = .ok (.istore_n 3, 1) := by decide +kernel
theorem dX6_readColumn_92 : decode cX6_readColumn 92 = .ok (.iload_n 3, 1) := by decide +kernel
theorem dX6_readColumn_93 : decode cX6_readColumn 93 = .ok (.aload_n 1, 1) := by decide +kernel
theorem dX6_readColumn_94 : decode cX6_readColumn 94 = .ok (.getfield 40, 3) := by decide +kernel
theorem dX6_readColumn_97 : decode cX6_readColumn 97 = .ok (.if_icmp .ge 29, 3) := by decide +kernel
theorem dX6_readColumn_100 : decode cX6_readColumn 100 = .ok (.aload_n 0, 1) := by decide +kernel
theorem dX6_readColumn_101 : decode cX6_readColumn 101 = .ok (.getfield 15, 3) := by decide +kernel
theorem dX6_readColumn_104 : decode cX6_readColumn 104 = .ok (.iload_n 2, 1) := by decide +kernel
theorem dX6_readColumn_105 : decode cX6_readColumn 105 = .ok (.bipush 16, 2) := by decide +kernel
theorem dX6_readColumn_107 : decode cX6_readColumn 107 = .ok (.imul, 1) := by decide +kernel
theorem dX6_readColumn_108 : decode cX6_readColumn 108 = .ok (.iload_n 3, 1) := by decide +kernel
theorem dX6_readColumn_109 : decode cX6_readColumn 109 = .ok (.iadd, 1) := by decide +kernel
theorem dX6_readColumn_110 : decode cX6_readColumn 110 = .ok (.aload_n 0, 1) := by decide +kernel
theorem dX6_readColumn_111 : decode cX6_readColumn 111 = .ok (.iload_n 3, 1) := by decide +kernel
theorem dX6_readColumn_112 : decode cX6_readColumn 112 = .ok (.aload_n 1, 1) := by decide +kernel
theorem dX6_readColumn_113 : decode cX6_readColumn 113 = .ok (.getfield 40, 3) := by decide +kernel
theorem dX6_readColumn_116 : decode cX6_readColumn 116 = .ok (.invokevirtual 59, 3) := by decide +kernel
theorem dX6_readColumn_119 : decode cX6_readColumn 119 = .ok (.iastore, 1) := by decide +kernel
theorem dX6_readColumn_120 : decode cX6_readColumn 120 = .ok (.iinc 3 1, 3) := by decide +kernel
theorem dX6_readColumn_123 : decode cX6_readColumn 123 = .ok (.goto (-31), 3) := by decide +kernel
theorem dX6_readColumn_126 : decode cX6_readColumn 126 = .ok (.return_, 1) := by decide +kernel
theorem dX6_isNew_0 : decode cX6_isNew 0 = .ok (.iconst 0, 1) := by decide +kernel
theorem dX6_isNew_1 : decode cX6_isNew 1 = .ok (.istore_n 2, 1) := by decide +kernel
theorem dX6_isNew_2 : decode cX6_isNew 2 = .ok (.iload_n 2, 1) := by decide +kernel
theorem dX6_isNew_3 : decode cX6_isNew 3 = .ok (.iload_n 1, 1) := by decide +kernel
theorem dX6_isNew_4 : decode cX6_isNew 4 = .ok (.if_icmp .ge 27, 3) := by decide +kernel
theorem dX6_isNew_7 : decode cX6_isNew 7 = .ok (.aload_n 0, 1) := by decide +kernel
theorem dX6_isNew_8 : decode cX6_isNew 8 = .ok (.getfield 18, 3) := by decide +kernel
theorem dX6_isNew_11 : decode cX6_isNew 11 = .ok (.iload_n 2, 1) := by decide +kernel
theorem dX6_isNew_12 : decode cX6_isNew 12 = .ok (.laload, 1) := by decide +kernel
theorem dX6_isNew_13 : decode cX6_isNew 13 = .ok (.aload_n 0, 1) := by decide +kernel
theorem dX6_isNew_14 : decode cX6_isNew 14 = .ok (.getfield 18, 3) := by decide +kernel
theorem dX6_isNew_17 : decode cX6_isNew 17 = .ok (.iload_n 1, 1) := by decide +kernel
theorem dX6_isNew_18 : decode cX6_isNew 18 = .ok (.laload, 1) := by decide +kernel
theorem dX6_isNew_19 : decode cX6_isNew 19 = .ok (.lcmp, 1) := by decide +kernel
theorem dX6_isNew_20 : decode cX6_isNew 20 = .ok (.ifCond .ne 5, 3) := by decide +kernel
theorem dX6_isNew_23 : decode cX6_isNew 23 = .ok (.iconst 0, 1) := by decide +kernel
theorem dX6_isNew_24 : decode cX6_isNew 24 = .ok (.ireturn, 1) := by decide +kernel
theorem dX6_isNew_25 : decode cX6_isNew 25 = .ok (.iinc 2 1, 3) := by decide +kernel
theorem dX6_isNew_28 : decode cX6_isNew 28 = .ok (.goto (-26), 3) := by decide +kernel
theorem dX6_isNew_31 : decode cX6_isNew 31 = .ok (.iconst 1, 1) := by decide +kernel
theorem dX6_isNew_32 : decode cX6_isNew 32 = .ok (.ireturn, 1) := by decide +kernel
theorem dX6_lesserOnes_0 : decode cX6_lesserOnes 0 = .ok (.iconst 0, 1) := by decide +kernel
theorem dX6_lesserOnes_1 : decode cX6_lesserOnes 1 = .ok (.istore_n 3, 1) := by decide +kernel
theorem dX6_lesserOnes_2 : decode cX6_lesserOnes 2 = .ok (.iconst 0, 1) := by decide +kernel
theorem dX6_lesserOnes_3 : decode cX6_lesserOnes 3 = .ok (.istore 4, 2) := by decide +kernel
theorem dX6_lesserOnes_5 : decode cX6_lesserOnes 5 = .ok (.iload 4, 2) := by decide +kernel
theorem dX6_lesserOnes_7 : decode cX6_lesserOnes 7 = .ok (.iload_n 2, 1) := by decide +kernel
theorem dX6_lesserOnes_8 : decode cX6_lesserOnes 8 = .ok (.if_icmp .ge 39, 3) := by decide +kernel
theorem dX6_lesserOnes_11 : decode cX6_lesserOnes 11 = .ok (.aload_n 0, 1) := by decide +kernel
theorem dX6_lesserOnes_12 : decode cX6_lesserOnes 12 = .ok (.getfield 22, 3) := by decide +kernel
theorem dX6_lesserOnes_15 : decode cX6_lesserOnes 15 = .ok (.iload 4, 2) := by decide +kernel
theorem dX6_lesserOnes_17 : decode cX6_lesserOnes 17 = .ok (.baload, 1) := by decide +kernel
theorem dX6_lesserOnes_18 : decode cX6_lesserOnes 18 = .ok (.ifCond .eq 23, 3) := by decide +kernel
theorem dX6_lesserOnes_21 : decode cX6_lesserOnes 21 = .ok (.aload_n 0, 1) := by decide +kernel
theorem dX6_lesserOnes_22 : decode cX6_lesserOnes 22 = .ok (.getfield 18, 3) := by decide +kernel
theorem dX6_lesserOnes_25 : decode cX6_lesserOnes 25 = .ok (.iload 4, 2) := by decide +kernel
theorem dX6_lesserOnes_27 : decode cX6_lesserOnes 27 = .ok (.laload, 1) := by decide +kernel
theorem dX6_lesserOnes_28 : decode cX6_lesserOnes 28 = .ok (.aload_n 0, 1) := by decide +kernel
theorem dX6_lesserOnes_29 : decode cX6_lesserOnes 29 = .ok (.getfield 18, 3) := by decide +kernel
theorem dX6_lesserOnes_32 : decode cX6_lesserOnes 32 = .ok (.iload_n 1, 1) := by decide +kernel
theorem dX6_lesserOnes_33 : decode cX6_lesserOnes 33 = .ok (.laload, 1) := by decide +kernel
theorem dX6_lesserOnes_34 : decode cX6_lesserOnes 34 = .ok (.lcmp, 1) := by decide +kernel
theorem dX6_lesserOnes_35 : decode cX6_lesserOnes 35 = .ok (.ifCond .ge 6, 3) := by decide +kernel
theorem dX6_lesserOnes_38 : decode cX6_lesserOnes 38 = .ok (.iinc 3 1, 3) := by decide +kernel
theorem dX6_lesserOnes_41 : decode cX6_lesserOnes 41 = .ok (.iinc 4 1, 3) := by decide +kernel
theorem dX6_lesserOnes_44 : decode cX6_lesserOnes 44 = .ok (.goto (-39), 3) := by decide +kernel
theorem dX6_lesserOnes_47 : decode cX6_lesserOnes 47 = .ok (.iload_n 3, 1) := by decide +kernel
theorem dX6_lesserOnes_48 : decode cX6_lesserOnes 48 = .ok (.ireturn, 1) := by decide +kernel
