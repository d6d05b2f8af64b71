theorem dX2_init_0 : decode cX2_init 0 = .ok (.aload_n 0, 1) := by decide +kernel
theorem dX2_init_1 : decode cX2_init 1 = .ok (.invokespecial 3, 3) := by decide +kernel
theorem dX2_init_4 : decode cX2_init 4 = .ok (.aload_n 0, 1) := by decide +kernel
theorem dX2_init_5 : decode cX2_init 5 = .ok (.bipush 6, 2) := by decide +kernel
theorem dX2_init_7 : decode cX2_init 7 = .ok (.newarray .int, 2) := by decide +kernel
theorem dX2_init_9 : decode cX2_init 9 = .ok (.putfield 9, 3) := by decide +kernel
theorem dX2_init_12 : decode cX2_init 12 = .ok (.return_, 1) := by decide +kernel
set_option maxRecDepth 20000 in
theorem ggX2_readProper_X2_addProper : GoodIn wsX2_readProper wsX2_addProper := goodIn_r _ [7, 1, 8, 9, 10, 11, 12, 13, 14, 15, 16, 17, 18, 19, 20, 21, 22, 23, 24, 25, 26] (by decide +kernel) (by decide +kernel)
set_option maxRecDepth 20000 in
theorem gX2_readProper_X2_addProper : GoodIn wsX2_readProper (wsV RX2 23 RX2 yX2_addProper wsX2_addProper) := goodIn_app (goodIn_of _ (by decide +kernel)) ggX2_readProper_X2_addProper
theorem dX2_readProper_0 : decode cX2_readProper 0 = .ok (.aload_n 0, 1) := by decide +kernel
theorem dX2_readProper_1 : decode cX2_readProper 1 = .ok (.iconst 0, 1) := by decide +kernel
theorem dX2_readProper_2 : decode cX2_readProper 2 = .ok (.putfield 15, 3) := by decide +kernel
theorem dX2_readProper_5 : decode cX2_readProper 5 = .ok (.iconst 0, 1) := by decide +kernel
theorem dX2_readProper_6 : decode cX2_readProper 6 = .ok (.istore_n 2, 1) := by decide +kernel
theorem dX2_readProper_7 : decode cX2_readProper 7 = .ok (.iload_n 2, 1) := by decide +kernel
theorem dX2_readProper_8 : decode cX2_readProper 8 = .ok (.aload_n 1, 1) := by decide +kernel
theorem dX2_readProper_9 : decode cX2_readProper 9 = .ok (.getfield 19, 3) := by decide +kernel
theorem dX2_readProper_12 : decode cX2_readProper 12 = .ok (.if_icmp .ge 15, 3) := by decide +kernel
theorem dX2_readProper_15 : decode cX2_readProper 15 = .ok (.aload_n 0, 1) := by decide +kernel
theorem dX2_readProper_16 : decode cX2_readProper 16 = .ok (.aload_n 1, 1) := by decide +kernel
theorem dX2_readProper_17 : decode cX2_readProper 17 = .ok (.iload_n 2, 1) := by decide +kernel
theorem dX2_readProper_18 : decode cX2_readProper 18 = .ok (.invokevirtual 23, 3) := by decide +kernel
theorem dX2_readProper_21 : decode cX2_readProper 21 = .ok (.iinc 2 1, 3) := by decide +kernel
theorem dX2_readProper_24 : decode cX2_readProper 24 = .ok (.goto (-17), 3) := by decide +kernel
theorem dX2_readProper_27 : decode cX2_readProper 27 = .ok (.return_, 1) := by decide +kernel
set_option maxRecDepth 20000 in
theorem ggX2_readTold_X7_letterAt : GoodIn wsX2_readTold wsX7_letterAt := goodIn_r _ [8, 9, 10, 11, 7, 12, 13, 14, 35, 36] (by decide +kernel) (by decide +kernel)
set_option maxRecDepth 20000 in
theorem gX2_readTold_X7_letterAt : GoodIn wsX2_readTold (wsV RX2 30 RX7 yX7_letterAt wsX7_letterAt) := goodIn_app (goodIn_of _ (by decide +kernel)) ggX2_readTold_X7_letterAt
set_option maxRecDepth 20000 in
theorem ggX2_readTold_X8_hasColumn : GoodIn wsX2_readTold wsX8_hasColumn := goodIn_r _ [19, 20, 37, 38, 39, 40, 41] (by decide +kernel) (by decide +kernel)
set_option maxRecDepth 20000 in
theorem gX2_readTold_X8_hasColumn : GoodIn wsX2_readTold (wsV RX2 34 RX8 yX8_hasColumn wsX8_hasColumn) := goodIn_app (goodIn_of _ (by decide +kernel)) ggX2_readTold_X8_hasColumn
set_option maxRecDepth 20000 in
theorem ggX2_readTold_X2_addProper : GoodIn wsX2_readTold wsX2_addProper := goodIn_r _ [25, 1, 26, 27, 28, 29, 18, 30, 31, 32, 16, 17, 19, 20, 33, 34, 37, 38, 39, 40, 41] (by decide +kernel) (by decide +kernel)
set_option maxRecDepth 20000 in
theorem gX2_readTold_X2_addProper : GoodIn wsX2_readTold (wsV RX2 23 RX2 yX2_addProper wsX2_addProper) := goodIn_app (goodIn_of _ (by decide +kernel)) ggX2_readTold_X2_addProper
theorem dX2_readTold_0 : decode cX2_readTold 0 = .ok (.aload_n 0, 1) := by decide +kernel
theorem dX2_readTold_1 : decode cX2_readTold 1 = .ok (.iconst 0, 1) := by decide +kernel
theorem dX2_readTold_2 : decode cX2_readTold 2 = .ok (.putfield 15, 3) := by decide +kernel
theorem dX2_readTold_5 : decode cX2_readTold 5 = .ok (.iconst 0, 1) := by decide +kernel
theorem dX2_readTold_6 : decode cX2_readTold 6 = .ok (.istore_n 3, 1) := by decide +kernel
theorem dX2_readTold_7 : decode cX2_readTold 7 = .ok (.iconst 0, 1) := by decide +kernel
theorem dX2_readTold_8 : decode cX2_readTold 8 = .ok (.istore 4, 2) := by decide +kernel
theorem dX2_readTold_10 : decode cX2_readTold 10 = .ok (.iload 4, 2) := by decide +kernel
theorem dX2_readTold_12 : decode cX2_readTold 12 = .ok (.aload_n 1, 1) := by decide +kernel
theorem dX2_readTold_13 : decode cX2_readTold 13 = .ok (.getfield 27, 3) := by decide +kernel
theorem dX2_readTold_16 : decode cX2_readTold 16 = .ok (.if_icmp .ge 52, 3) := by decide +kernel
theorem dX2_readTold_19 : decode cX2_readTold 19 = .ok (.aload_n 1, 1) := by decide +kernel
theorem dX2_readTold_20 : decode cX2_readTold 20 = .ok (.iload 4, 2) := by decide +kernel
theorem dX2_readTold_22 : decode cX2_readTold 22 = .ok (.invokevirtual 30, 3) := by decide +kernel
theorem dX2_readTold_25 : decode cX2_readTold 25 = .ok (.istore 5, 2) := by decide +kernel
theorem dX2_readTold_27 : decode cX2_readTold 27 = .ok (.aload_n 2, 1) := by decide +kernel
theorem dX2_readTold_28 : decode cX2_readTold 28 = .ok (.iload 5, 2) := by decide +kernel
theorem dX2_readTold_30 : decode cX2_readTold 30 = .ok (.invokevirtual 34, 3) := by decide +kernel
theorem dX2_readTold_33 : decode cX2_readTold 33 = .ok (.ifCond .eq 12, 3) := by decide +kernel
theorem dX2_readTold_36 : decode cX2_readTold 36 = .ok (.iload_n 3, 1) := by decide +kernel
theorem dX2_readTold_37 : decode cX2_readTold 37 = .ok (.iload 5, 2) := by decide +kernel
theorem dX2_readTold_39 : decode cX2_readTold 39 = .ok (.ishr, 1) := by decide +kernel
theorem dX2_readTold_40 : decode cX2_readTold 40 = .ok (.iconst 1, 1) := by decide +kernel
theorem dX2_readTold_41 : decode cX2_readTold 41 = .ok (.iand, 1) := by decide +kernel
theorem dX2_readTold_42 : decode cX2_readTold 42 = .ok (.ifCond .eq 6, 3) := by decide +kernel
theorem dX2_readTold_45 : decode cX2_readTold 45 = .ok (.iload 4, 2) := by decide +kernel
theorem dX2_readTold_47 : decode cX2_readTold 47 = .ok (.ireturn, 1) := by decide +kernel
theorem dX2_readTold_48 : decode cX2_readTold 48 = .ok (.iload_n 3, 1) := by decide +kernel
theorem dX2_readTold_49 : decode cX2_readTold 49 = .ok (.iconst 1, 1) := by decide +kernel
theorem dX2_readTold_50 : decode cX2_readTold 50 = .ok (.iload 5, 2) := by decide +kernel
theorem dX2_readTold_52 : decode cX2_readTold 52 = .ok (.ishl, 1) := by decide +kernel
theorem dX2_readTold_53 : decode cX2_readTold 53 = .ok (.ior, 1) := by decide +kernel
theorem dX2_readTold_54 : decode cX2_readTold 54 = .ok (.istore_n 3, 1) := by decide +kernel
theorem dX2_readTold_55 : decode cX2_readTold 55 = .ok (.aload_n 0, 1) := by decide +kernel
theorem dX2_readTold_56 : decode cX2_readTold 56 = .ok (.aload_n 2, 1) := by decide +kernel
theorem dX2_readTold_57 : decode cX2_readTold 57 = .ok (.iload 5, 2) := by decide +kernel
theorem dX2_readTold_59 : decode cX2_readTold 59 = .ok (.invokevirtual 23, 3) := by decide +kernel
theorem dX2_readTold_62 : decode cX2_readTold 62 = .ok (.iinc 4 1, 3) := by decide +kernel
theorem dX2_readTold_65 : decode cX2_readTold 65 = .ok (.goto (-55), 3) := by decide +kernel
theorem dX2_readTold_68 : decode cX2_readTold 68 = .ok (.iconst 0, 1) := by decide +kernel
theorem dX2_readTold_69 : decode cX2_readTold 69 = .ok (.istore 4, 2) := by decide +kernel
theorem dX2_readTold_71 : decode cX2_readTold 71 = .ok (.iload 4, 2) := by decide +kernel
theorem dX2_readTold_73 : decode cX2_readTold 73 = .ok (.aload_n 2, 1) := by decide +kernel
theorem dX2_readTold_74 : decode cX2_readTold 74 = .ok (.getfield 19, 3) := by decide +kernel
theorem dX2_readTold_77 : decode cX2_readTold 77 = .ok (.if_icmp .ge 25, 3) := by decide +kernel
theorem dX2_readTold_80 : decode cX2_readTold 80 = .ok (.iload_n 3, 1) := by decide +kernel
theorem dX2_readTold_81 : decode cX2_readTold 81 = .ok (.iload 4, 2) := by decide +kernel
theorem dX2_readTold_83 : decode cX2_readTold 83 = .ok (.ishr, 1) := by decide +kernel
theorem dX2_readTold_84 : decode cX2_readTold 84 = .ok (.iconst 1, 1) := by decide +kernel
theorem dX2_readTold_85 : decode cX2_readTold 85 = .ok (.iand, 1) := by decide +kernel
theorem dX2_readTold_86 : decode cX2_readTold 86 = .ok (.ifCond .ne 10, 3) := by decide +kernel
theorem dX2_readTold_89 : decode cX2_readTold 89 = .ok (.aload_n 0, 1) := by decide +kernel
theorem dX2_readTold_90 : decode cX2_readTold 90 = .ok (.aload_n 2, 1) := by decide +kernel
theorem dX2_readTold_91 : decode cX2_readTold 91 = .ok (.iload 4, 2) := by decide +kernel
theorem dX2_readTold_93 : decode cX2_readTold 93 = .ok (.invokevirtual 23, 3) := by decide +kernel
theorem dX2_readTold_96 : decode cX2_readTold 96 = .ok (.iinc 4 1, 3) := by decide +kernel
theorem dX2_readTold_99 : decode cX2_readTold 99 = .ok (.goto (-28), 3) := by decide +kernel
theorem dX2_readTold_102 : decode cX2_readTold 102 = .ok (.iconst (-1), 1) := by decide +kernel
theorem dX2_readTold_103 : decode cX2_readTold 103 = .ok (.ireturn, 1) := by decide +kernel
set_option maxRecDepth 20000 in
theorem ggX2_addProper_X8_isProper : GoodIn wsX2_addProper wsX8_isProper := goodIn_r _ [7, 8, 9, 10, 11, 6, 12, 13, 16, 17, 18, 19, 20] (by decide +kernel) (by decide +kernel)
set_option maxRecDepth 20000 in
theorem gX2_addProper_X8_isProper : GoodIn wsX2_addProper (wsV RX2 38 RX8 yX8_isProper wsX8_isProper) := goodIn_app (goodIn_of _ (by decide +kernel)) ggX2_addProper_X8_isProper
theorem dX2_addProper_0 : decode cX2_addProper 0 = .ok (.aload_n 1, 1) := by decide +kernel
theorem dX2_addProper_1 : decode cX2_addProper 1 = .ok (.iload_n 2, 1) := by decide +kernel
theorem dX2_addProper_2 : decode cX2_addProper 2 = .ok (.invokevirtual 38, 3) := by decide +kernel
theorem dX2_addProper_5 : decode cX2_addProper 5 = .ok (.ifCond .eq 32, 3) := by decide +kernel
theorem dX2_addProper_8 : decode cX2_addProper 8 = .ok (.aload_n 0, 1) := by decide +kernel
theorem dX2_addProper_9 : decode cX2_addProper 9 = .ok (.getfield 15, 3) := by decide +kernel
theorem dX2_addProper_12 : decode cX2_addProper 12 = .ok (.bipush 6, 2) := by decide +kernel
theorem dX2_addProper_14 : decode cX2_addProper 14 = .ok (.if_icmp .ge 23, 3) := by decide +kernel
theorem dX2_addProper_17 : decode cX2_addProper 17 = .ok (.aload_n 0, 1) := by decide +kernel
theorem dX2_addProper_18 : decode cX2_addProper 18 = .ok (.getfield 9, 3) := by decide +kernel
theorem dX2_addProper_21 : decode cX2_addProper 21 = .ok (.aload_n 0, 1) := by decide +kernel
theorem dX2_addProper_22 : decode cX2_addProper 22 = .ok (.getfield 15, 3) := by decide +kernel
theorem dX2_addProper_25 : decode cX2_addProper 25 = .ok (.iload_n 2, 1) := by decide +kernel
theorem dX2_addProper_26 : decode cX2_addProper 26 = .ok (.iastore, 1) := by decide +kernel
theorem dX2_addProper_27 : decode cX2_addProper 27 = .ok (.aload_n 0, 1) := by decide +kernel
theorem dX2_addProper_28 : decode cX2_addProper 28 = .ok (.dup, 1) := by decide +kernel
theorem dX2_addProper_29 : decode cX2_addProper 29 = .ok (.getfield 15, 3) := by decide +kernel
theorem dX2_addProper_32 : decode cX2_addProper 32 = .ok (.iconst 1, 1) := by decide +kernel
theorem dX2_addProper_33 : decode cX2_addProper 33 = .ok (.iadd, 1) := by decide +kernel
theorem dX2_addProper_34 : decode cX2_addProper 34 = .ok (.putfield 15, 3) := by decide +kernel
theorem dX2_addProper_37 : decode cX2_addProper 37 = .ok (.return_, 1) := by decide +kernel
theorem dX2_sortByFewest_0 : decode cX2_sortByFewest 0 = .ok (.iconst 1, 1) := by decide +kernel
theorem dX2_sortByFewest_1 : decode cX2_sortByFewest 1 = .ok (.istore_n 2, 1) := by decide +kernel
theorem dX2_sortByFewest_2 : decode cX2_sortByFewest 2 = .ok (.iload_n 2, 1) := by decide +kernel
theorem dX2_sortByFewest_3 : decode cX2_sortByFewest 3 = .ok (.aload_n 0, 1) := by decide +kernel
theorem dX2_sortByFewest_4 : decode cX2_sortByFewest 4 = .ok (.getfield 15, 3) := by decide +kernel
theorem dX2_sortByFewest_7 : decode cX2_sortByFewest 7 = .ok (.if_icmp .ge 77, 3) := by decide +kernel
theorem dX2_sortByFewest_10 : decode cX2_sortByFewest 10 = .ok (.aload_n 0, 1) := by decide +kernel
theorem dX2_sortByFewest_11 : decode cX2_sortByFewest 11 = .ok (.getfield 9, 3) := by decide +kernel
theorem dX2_sortByFewest_14 : decode cX2_sortByFewest 14 = .ok (.iload_n 2, 1) := by decide +kernel
theorem dX2_sortByFewest_15 : decode cX2_sortByFewest 15 = .ok (.iaload, 1) := by decide +kernel
theorem dX2_sortByFewest_16 : decode cX2_sortByFewest 16 = .ok (.istore_n 3, 1) := by decide +kernel
theorem dX2_sortByFewest_17 : decode cX2_sortByFewest 17 = .ok (.iload_n 2, 1) := by decide +kernel
theorem dX2_sortByFewest_18 : decode cX2_sortByFewest 18 = .ok (.istore 4, 2) := by decide +kernel
theorem dX2_sortByFewest_20 : decode cX2_sortByFewest 20 = .ok (.iload 4, 2) := by decide +kernel
theorem dX2_sortByFewest_22 : decode cX2_sortByFewest 22 = .ok (.ifCond .le 48, 3) := by decide +kernel
theorem dX2_sortByFewest_25 : decode cX2_sortByFewest 25 = .ok (.aload_n 1, 1) := by decide +kernel
theorem dX2_sortByFewest_26 : decode cX2_sortByFewest 26 = .ok (.getfield 41, 3) := by decide +kernel
theorem dX2_sortByFewest_29 : decode cX2_sortByFewest 29 = .ok (.aload_n 0, 1) := by decide +kernel
theorem dX2_sortByFewest_30 : decode cX2_sortByFewest 30 = .ok (.getfield 9, 3) := by decide +kernel
theorem dX2_sortByFewest_33 : decode cX2_sortByFewest 33 = .ok (.iload 4, 2) := by decide +kernel
theorem dX2_sortByFewest_35 : decode cX2_sortByFewest 35 = .ok (.iconst 1, 1) := by decide +kernel
theorem dX2_sortByFewest_36 : decode cX2_sortByFewest 36 = .ok (.isub, 1) := by decide +kernel
theorem dX2_sortByFewest_37 : decode cX2_sortByFewest 37 = .ok (.iaload, 1) := by decide +kernel
theorem dX2_sortByFewest_38 : decode cX2_sortByFewest 38 = .ok (.iaload, 1) := by decide +kernel
theorem dX2_sortByFewest_39 : decode cX2_sortByFewest 39 = .ok (.aload_n 1, 1) := by decide +kernel
theorem dX2_sortByFewest_40 : decode cX2_sortByFewest 40 = .ok (.getfield 41, 3) := by decide +kernel
theorem dX2_sortByFewest_43 : decode cX2_sortByFewest 43 = .ok (.iload_n 3, 1) := by decide +kernel
theorem dX2_sortByFewest_44 : decode cX2_sortByFewest 44 = .ok (.iaload, 1) := by decide +kernel
theorem dX2_sortByFewest_45 : decode cX2_sortByFewest 45 = .ok (.if_icmp .le 25, 3) := by decide +kernel
theorem dX2_sortByFewest_48 : decode cX2_sortByFewest 48 = .ok (.aload_n 0, 1) := by decide +kernel
theorem dX2_sortByFewest_49 : decode cX2_sortByFewest 49 = .ok (.getfield 9, 3) := by decide +kernel
theorem dX2_sortByFewest_52 : decode cX2_sortByFewest 52 = .ok (.iload 4, 2) := by decide +kernel
theorem dX2_sortByFewest_54 : decode cX2_sortByFewest 54 = .ok (.aload_n 0, 1) := by decide +kernel
theorem dX2_sortByFewest_55 : decode cX2_sortByFewest 55 = .ok (.getfield 9, 3) := by decide +kernel
theorem dX2_sortByFewest_58 : decode cX2_sortByFewest 58 = .ok (.iload 4, 2) := by decide +kernel
theorem dX2_sortByFewest_60 : decode cX2_sortByFewest 60 = .ok (.iconst 1, 1) := by decide +kernel
theorem dX2_sortByFewest_61 : decode cX2_sortByFewest 61 = .ok (.isub, 1) := by decide +kernel
theorem dX2_sortByFewest_62 : decode cX2_sortByFewest 62 = .ok (.iaload, 1) := by decide +kernel
theorem dX2_sortByFewest_63 : decode cX2_sortByFewest 63 = .ok (.iastore, 1) := by decide +kernel
theorem dX2_sortByFewest_64 : decode cX2_sortByFewest 64 = .ok (.iinc 4 (-1), 3) := by decide +kernel
theorem dX2_sortByFewest_67 : decode cX2_sortByFewest 67 = .ok (.goto (-47), 3) := by decide +kernel
theorem dX2_sortByFewest_70 : decode cX2_sortByFewest 70 = .ok (.aload_n 0, 1) := by decide +kernel
theorem dX2_sortByFewest_71 : decode cX2_sortByFewest 71 = .ok (.getfield 9, 3) := by decide +kernel
theorem dX2_sortByFewest_74 : decode cX2_sortByFewest 74 = .ok (.iload 4, 2) := by decide +kernel
theorem dX2_sortByFewest_76 : decode cX2_sortByFewest 76 = .ok (.iload_n 3, 1) := by decide +kernel
theorem dX2_sortByFewest_77 : decode cX2_sortByFewest 77 = .ok (.iastore, 1) := by decide +kernel
theorem dX2_sortByFewest_78 : decode cX2_sortByFewest 78 = .ok (.iinc 2 1, 3) := by decide +kernel
theorem dX2_sortByFewest_81 : decode cX2_sortByFewest 81 = .ok (.goto (-79), 3) := by decide +kernel
theorem dX2_sortByFewest_84 : decode cX2_sortByFewest 84 = .ok (.return_, 1) := by decide +kernel
set_option maxRecDepth 20000 in
theorem ggX2_stepOn_X2_exchange : GoodIn wsX2_stepOn wsX2_exchange := goodIn_r _ [7, 2, 8, 9] (by decide +kernel) (by decide +kernel)
set_option maxRecDepth 20000 in
theorem gX2_stepOn_X2_exchange : GoodIn wsX2_stepOn (wsV RX2 46 RX2 yX2_exchange wsX2_exchange) := goodIn_app (goodIn_of _ (by decide +kernel)) ggX2_stepOn_X2_exchange
theorem dX2_stepOn_0 : decode cX2_stepOn 0 = .ok (.aload_n 0, 1) := by decide +kernel
theorem dX2_stepOn_1 : decode cX2_stepOn 1 = .ok (.getfield 15, 3) := by decide +kernel
theorem dX2_stepOn_4 : decode cX2_stepOn 4 = .ok (.iconst 2, 1) := by decide +kernel
theorem dX2_stepOn_5 : decode cX2_stepOn 5 = .ok (.isub, 1) := by decide +kernel
theorem dX2_stepOn_6 : decode cX2_stepOn 6 = .ok (.istore_n 1, 1) := by decide +kernel
theorem dX2_stepOn_7 : decode cX2_stepOn 7 = .ok (.iload_n 1, 1) := by decide +kernel
theorem dX2_stepOn_8 : decode cX2_stepOn 8 = .ok (.ifCond .lt 26, 3) := by decide +kernel
theorem dX2_stepOn_11 : decode cX2_stepOn 11 = .ok (.aload_n 0, 1) := by decide +kernel
theorem dX2_stepOn_12 : decode cX2_stepOn 12 = .ok (.getfield 9, 3) := by decide +kernel
theorem dX2_stepOn_15 : decode cX2_stepOn 15 = .ok (.iload_n 1, 1) := by decide +kernel
theorem dX2_stepOn_16 : decode cX2_stepOn 16 = .ok (.iaload, 1) := by decide +kernel
theorem dX2_stepOn_17 : decode cX2_stepOn 17 = .ok (.aload_n 0, 1) := by decide +kernel
theorem dX2_stepOn_18 : decode cX2_stepOn 18 = .ok (.getfield 9, 3) := by decide +kernel
theorem dX2_stepOn_21 : decode cX2_stepOn 21 = .ok (.iload_n 1, 1) := by decide +kernel
theorem dX2_stepOn_22 : decode cX2_stepOn 22 = .ok (.iconst 1, 1) := by decide +kernel
theorem dX2_stepOn_23 : decode cX2_stepOn 23 = .ok (.iadd, 1) := by decide +kernel
theorem dX2_stepOn_24 : decode cX2_stepOn 24 = .ok (.iaload, 1) := by decide +kernel
theorem dX2_stepOn_25 : decode cX2_stepOn 25 = .ok (.if_icmp .le 9, 3) := by decide +kernel
theorem dX2_stepOn_28 : decode cX2_stepOn 28 = .ok (.iinc 1 (-1), 3) := by decide +kernel
theorem dX2_stepOn_31 : decode cX2_stepOn 31 = .ok (.goto (-24), 3) := by decide +kernel
theorem dX2_stepOn_34 : decode cX2_stepOn 34 = .ok (.iload_n 1, 1) := by decide +kernel
theorem dX2_stepOn_35 : decode cX2_stepOn 35 = .ok (.ifCond .ge 5, 3) := by decide +kernel
theorem dX2_stepOn_38 : decode cX2_stepOn 38 = .ok (.iconst 0, 1) := by decide +kernel
theorem dX2_stepOn_39 : decode cX2_stepOn 39 = .ok (.ireturn, 1) := by decide +kernel
theorem dX2_stepOn_40 : decode cX2_stepOn 40 = .ok (.aload_n 0, 1) := by decide +kernel
theorem dX2_stepOn_41 : decode cX2_stepOn 41 = .ok (.getfield 15, 3) := by decide +kernel
theorem dX2_stepOn_44 : decode cX2_stepOn 44 = .ok (.iconst 1, 1) := by decide +kernel
theorem dX2_stepOn_45 : decode cX2_stepOn 45 = .ok (.isub, 1) := by decide +kernel
theorem dX2_stepOn_46 : decode cX2_stepOn 46 = .ok (.istore_n 2, 1) := by decide +kernel
theorem dX2_stepOn_47 : decode cX2_stepOn 47 = .ok (.iload_n 2, 1) := by decide +kernel
theorem dX2_stepOn_48 : decode cX2_stepOn 48 = .ok (.iload_n 1, 1) := by decide +kernel
theorem dX2_stepOn_49 : decode cX2_stepOn 49 = .ok (.if_icmp .le 24, 3) := by decide +kernel
theorem dX2_stepOn_52 : decode cX2_stepOn 52 = .ok (.aload_n 0, 1) := by decide +kernel
theorem dX2_stepOn_53 : decode cX2_stepOn 53 = .ok (.getfield 9, 3) := by decide +kernel
theorem dX2_stepOn_56 : decode cX2_stepOn 56 = .ok (.iload_n 2, 1) := by decide +kernel
theorem dX2_stepOn_57 : decode cX2_stepOn 57 = .ok (.iaload, 1) := by decide +kernel
theorem dX2_stepOn_58 : decode cX2_stepOn 58 = .ok (.aload_n 0, 1) := by decide +kernel
theorem dX2_stepOn_59 : decode cX2_stepOn 59 = .ok (.getfield 9, 3) := by decide +kernel
theorem dX2_stepOn_62 : decode cX2_stepOn 62 = .ok (.iload_n 1, 1) := by decide +kernel
theorem dX2_stepOn_63 : decode cX2_stepOn 63 = .ok (.iaload, 1) := by decide +kernel
theorem dX2_stepOn_64 : decode cX2_stepOn 64 = .ok (.if_icmp .ge 9, 3) := by decide +kernel
theorem dX2_stepOn_67 : decode cX2_stepOn 67 = .ok (.iinc 2 (-1), 3) := by decide +kernel
theorem dX2_stepOn_70 : decode cX2_stepOn 70 = .ok (.goto (-23), 3) := by decide +kernel
theorem dX2_stepOn_73 : decode cX2_stepOn 73 = .ok (.aload_n 0, 1) := by decide +kernel
theorem dX2_stepOn_74 : decode cX2_stepOn 74 = .ok (.iload_n 1, 1) := by decide +kernel
theorem dX2_stepOn_75 : decode cX2_stepOn 75 = .ok (.iload_n 2, 1) := by decide +kernel
theorem dX2_stepOn_76 : decode cX2_stepOn 76 = .ok (.invokevirtual 46, 3) := by decide +kernel
theorem dX2_stepOn_79 : decode cX2_stepOn 79 = .ok (.iload_n 1, 1) := by decide +kernel
theorem dX2_stepOn_80 : decode cX2_stepOn 80 = .ok (.iconst 1, 1) := by decide +kernel
theorem dX2_stepOn_81 : decode cX2_stepOn 81 = .ok (.iadd, 1) := by decide +kernel
theorem dX2_stepOn_82 : decode cX2_stepOn 82 = .ok (.istore_n 3, 1) := by decide +kernel
theorem dX2_stepOn_83 : decode cX2_stepOn 83 = .ok (.aload_n 0, 1) := by decide +kernel
theorem dX2_stepOn_84 : decode cX2_stepOn 84 = .ok (.getfield 15, 3) := by decide +kernel
theorem dX2_stepOn_87 : decode cX2_stepOn 87 = .ok (.iconst 1, 1) := by decide +kernel
theorem dX2_stepOn_88 : decode cX2_stepOn 88 = .ok (.isub, 1) := by decide +kernel
theorem dX2_stepOn_89 : decode cX2_stepOn 89 = .ok (.istore 4, 2) := by decide +kernel
theorem dX2_stepOn_91 : decode cX2_stepOn 91 = .ok (.iload_n 3, 1) := by decide +kernel
theorem dX2_stepOn_92 : decode cX2_stepOn 92 = .ok (.iload 4, 2) := by decide +kernel
theorem dX2_stepOn_94 : decode cX2_stepOn 94 = .ok (.if_icmp .ge 19, 3) := by decide +kernel
theorem dX2_stepOn_97 : decode cX2_stepOn 97 = .ok (.aload_n 0, 1) := by decide +kernel
theorem dX2_stepOn_98 : decode cX2_stepOn 98 = .ok (.iload_n 3, 1) := by decide +kernel
theorem dX2_stepOn_99 : decode cX2_stepOn 99 = .ok (.iload 4, 2) := by decide +kernel
theorem dX2_stepOn_101 : decode cX2_stepOn 101 = .ok (.invokevirtual 46, 3) := by decide +kernel
theorem dX2_stepOn_104 : decode cX2_stepOn 104 = .ok (.iinc 3 1, 3) := by decide +kernel
theorem dX2_stepOn_107 : decode cX2_stepOn 107 = .ok (.iinc 4 (-1), 3) := by decide +kernel
theorem dX2_stepOn_110 : decode cX2_stepOn 110 = .ok (.goto (-19), 3) := by decide +kernel
theorem dX2_stepOn_113 : decode cX2_stepOn 113 = .ok (.iconst 1, 1) := by decide +kernel
theorem dX2_stepOn_114 : decode cX2_stepOn 114 = .ok (.ireturn, 1) := by decide +kernel
theorem dX2_exchange_0 : decode cX2_exchange 0 = .ok (.aload_n 0, 1) := by decide +kernel
theorem dX2_exchange_1 : decode cX2_exchange 1 = .ok (.getfield 9, 3) := by decide +kernel
theorem dX2_exchange_4 : decode cX2_exchange 4 = .ok (.iload_n 1, 1) := by decide +kernel
theorem dX2_exchange_5 : decode cX2_exchange 5 = .ok (.iaload, 1) := by decide +kernel
theorem dX2_exchange_6 : decode cX2_exchange 6 = .ok (.istore_n 3, 1) := by decide +kernel
theorem dX2_exchange_7 : decode cX2_exchange 7 = .ok (.aload_n 0, 1) := by decide +kernel
theorem dX2_exchange_8 : decode cX2_exchange 8 = .ok (.getfield 9, 3) := by decide +kernel
theorem dX2_exchange_11 : decode cX2_exchange 11 = .ok (.iload_n 1, 1) := by decide +kernel
theorem dX2_exchange_12 : decode cX2_exchange 12 = .ok (.aload_n 0, 1) := by decide +kernel
theorem dX2_exchange_13 : decode cX2_exchange 13 = .ok (.getfield 9, 3) := by decide +kernel
theorem dX2_exchange_16 : decode cX2_exchange 16 = .ok (.iload_n 2, 1) := by decide +kernel
theorem dX2_exchange_17 : decode cX2_exchange 17 = .ok (.iaload, 1) := by decide +kernel
theorem dX2_exchange_18 : decode cX2_exchange 18 = .ok (.iastore, 1) := by decide +kernel
theorem dX2_exchange_19 : decode cX2_exchange 19 = .ok (.aload_n 0, 1) := by decide +kernel
theorem dX2_exchange_20 : decode cX2_exchange 20 = .ok (.getfield 9, 3) := by decide +kernel
theorem dX2_exchange_23 : decode cX2_exchange 23 = .ok (.iload_n 2, 1) := by decide +kernel
theorem dX2_exchange_24 : decode cX2_exchange 24 = .ok (.iload_n 3, 1) := by decide +kernel
theorem dX2_exchange_25 : decode cX2_exchange 25 = .ok (.iastore, 1) := by decide +kernel
theorem dX2_exchange_26 : decode cX2_exchange 26 = .ok (.return_, 1) := by decide +kernel
