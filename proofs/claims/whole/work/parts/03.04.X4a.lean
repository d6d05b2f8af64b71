theorem dX4_init_0 : decode cX4_init 0 = .ok (.aload_n 0, 1) := by decide +kernel
theorem dX4_init_1 : decode cX4_init 1 = .ok (.invokespecial 3, 3) := by decide +kernel
theorem dX4_init_4 : decode cX4_init 4 = .ok (.aload_n 0, 1) := by decide +kernel
theorem dX4_init_5 : decode cX4_init 5 = .ok (.bipush 16, 2) := by decide +kernel
theorem dX4_init_7 : decode cX4_init 7 = .ok (.newarray .int, 2) := by decide +kernel
theorem dX4_init_9 : decode cX4_init 9 = .ok (.putfield 9, 3) := by decide +kernel
theorem dX4_init_12 : decode cX4_init 12 = .ok (.aload_n 0, 1) := by decide +kernel
theorem dX4_init_13 : decode cX4_init 13 = .ok (.bipush 16, 2) := by decide +kernel
theorem dX4_init_15 : decode cX4_init 15 = .ok (.newarray .int, 2) := by decide +kernel
theorem dX4_init_17 : decode cX4_init 17 = .ok (.putfield 15, 3) := by decide +kernel
theorem dX4_init_20 : decode cX4_init 20 = .ok (.aload_n 0, 1) := by decide +kernel
theorem dX4_init_21 : decode cX4_init 21 = .ok (.bipush 16, 2) := by decide +kernel
theorem dX4_init_23 : decode cX4_init 23 = .ok (.newarray .int, 2) := by decide +kernel
theorem dX4_init_25 : decode cX4_init 25 = .ok (.putfield 18, 3) := by decide +kernel
theorem dX4_init_28 : decode cX4_init 28 = .ok (.aload_n 0, 1) := by decide +kernel
theorem dX4_init_29 : decode cX4_init 29 = .ok (.bipush 16, 2) := by decide +kernel
theorem dX4_init_31 : decode cX4_init 31 = .ok (.newarray .int, 2) := by decide +kernel
theorem dX4_init_33 : decode cX4_init 33 = .ok (.putfield 21, 3) := by decide +kernel
theorem dX4_init_36 : decode cX4_init 36 = .ok (.aload_n 0, 1) := by decide +kernel
theorem dX4_init_37 : decode cX4_init 37 = .ok (.bipush 16, 2) := by decide +kernel
theorem dX4_init_39 : decode cX4_init 39 = .ok (.newarray .long, 2) := by decide +kernel
theorem dX4_init_41 : decode cX4_init 41 = .ok (.putfield 24, 3) := by decide +kernel
theorem dX4_init_44 : decode cX4_init 44 = .ok (.aload_n 0, 1) := by decide +kernel
theorem dX4_init_45 : decode cX4_init 45 = .ok (.sipush 256, 3) := by decide +kernel
theorem dX4_init_48 : decode cX4_init 48 = .ok (.newarray .int, 2) := by decide +kernel
theorem dX4_init_50 : decode cX4_init 50 = .ok (.putfield 28, 3) := by decide +kernel
theorem dX4_init_53 : decode cX4_init 53 = .ok (.return_, 1) := by decide +kernel
set_option maxRecDepth 20000 in
theorem ggX4_read_X8_properSet : GoodIn wsX4_read wsX8_properSet := goodIn_r _ [10, 11, 12, 13, 14, 9, 15, 16, 17, 18, 19, 20, 41, 42, 43, 44, 45] (by decide +kernel) (by decide +kernel)
set_option maxRecDepth 20000 in
theorem gX4_read_X8_properSet : GoodIn wsX4_read (wsV RX4 38 RX8 yX8_properSet wsX8_properSet) := goodIn_app (goodIn_of _ (by decide +kernel)) ggX4_read_X8_properSet
set_option maxRecDepth 20000 in
theorem ggX4_read_J6_bitCount_0f7a4 : GoodIn wsX4_read wsJ6_bitCount_0f7a4 := goodIn_r _ [24, 25, 26, 27] (by decide +kernel) (by decide +kernel)
set_option maxRecDepth 20000 in
theorem gX4_read_J6_bitCount_0f7a4 : GoodIn wsX4_read (va_wsS RX4 42 yJ6_bitCount_0f7a4 wsJ6_bitCount_0f7a4) := goodIn_app (goodIn_of _ (by decide +kernel)) ggX4_read_J6_bitCount_0f7a4
set_option maxRecDepth 20000 in
theorem ggX4_read_X8_unlikeCells : GoodIn wsX4_read wsX8_unlikeCells := goodIn_r _ [31, 11, 12, 13, 14, 9, 15, 16, 17, 18, 19, 20, 32, 33, 34, 35, 36, 37, 38, 39, 40, 41, 42, 43, 44, 45] (by decide +kernel) (by decide +kernel)
set_option maxRecDepth 20000 in
theorem gX4_read_X8_unlikeCells : GoodIn wsX4_read (wsV RX4 51 RX8 yX8_unlikeCells wsX8_unlikeCells) := goodIn_app (goodIn_of _ (by decide +kernel)) ggX4_read_X8_unlikeCells
theorem dX4_read_0 : decode cX4_read 0 = .ok (.aload_n 0, 1) := by decide +kernel
theorem dX4_read_1 : decode cX4_read 1 = .ok (.aload_n 1, 1) := by decide +kernel
theorem dX4_read_2 : decode cX4_read 2 = .ok (.getfield 31, 3) := by decide +kernel
theorem dX4_read_5 : decode cX4_read 5 = .ok (.putfield 37, 3) := by decide +kernel
theorem dX4_read_8 : decode cX4_read 8 = .ok (.aload_n 0, 1) := by decide +kernel
theorem dX4_read_9 : decode cX4_read 9 = .ok (.aload_n 1, 1) := by decide +kernel
theorem dX4_read_10 : decode cX4_read 10 = .ok (.invokevirtual 38, 3) := by decide +kernel
theorem dX4_read_13 : decode cX4_read 13 = .ok (.invokestatic 42, 3) := by decide +kernel
theorem dX4_read_16 : decode cX4_read 16 = .ok (.putfield 48, 3) := by decide +kernel
theorem dX4_read_19 : decode cX4_read 19 = .ok (.iconst 0, 1) := by decide +kernel
theorem dX4_read_20 : decode cX4_read 20 = .ok (.istore_n 2, 1) := by decide +kernel
theorem dX4_read_21 : decode cX4_read 21 = .ok (.iload_n 2, 1) := by decide +kernel
theorem dX4_read_22 : decode cX4_read 22 = .ok (.aload_n 0, 1) := by decide +kernel
theorem dX4_read_23 : decode cX4_read 23 = .ok (.getfield 37, 3) := by decide +kernel
theorem dX4_read_26 : decode cX4_read 26 = .ok (.if_icmp .ge 63, 3) := by decide +kernel
theorem dX4_read_29 : decode cX4_read 29 = .ok (.aload_n 0, 1) := by decide +kernel
theorem dX4_read_30 : decode cX4_read 30 = .ok (.getfield 9, 3) := by decide +kernel
theorem dX4_read_33 : decode cX4_read 33 = .ok (.iload_n 2, 1) := by decide +kernel
theorem dX4_read_34 : decode cX4_read 34 = .ok (.iload_n 2, 1) := by decide +kernel
theorem dX4_read_35 : decode cX4_read 35 = .ok (.iastore, 1) := by decide +kernel
theorem dX4_read_36 : decode cX4_read 36 = .ok (.iconst 0, 1) := by decide +kernel
theorem dX4_read_37 : decode cX4_read 37 = .ok (.istore_n 3, 1) := by decide +kernel
theorem dX4_read_38 : decode cX4_read 38 = .ok (.iload_n 3, 1) := by decide +kernel
theorem dX4_read_39 : decode cX4_read 39 = .ok (.iload_n 2, 1) := by decide +kernel
theorem dX4_read_40 : decode cX4_read 40 = .ok (.if_icmp .ge 43, 3) := by decide +kernel
theorem dX4_read_43 : decode cX4_read 43 = .ok (.aload_n 1, 1) := by decide +kernel
theorem dX4_read_44 : decode cX4_read 44 = .ok (.iload_n 2, 1) := by decide +kernel
theorem dX4_read_45 : decode cX4_read 45 = .ok (.iload_n 3, 1) := by decide +kernel
theorem dX4_read_46 : decode cX4_read 46 = .ok (.invokevirtual 51, 3) := by decide +kernel
theorem dX4_read_49 : decode cX4_read 49 = .ok (.istore 4, 2) := by decide +kernel
theorem dX4_read_51 : decode cX4_read 51 = .ok (.aload_n 0, 1) := by decide +kernel
theorem dX4_read_52 : decode cX4_read 52 = .ok (.getfield 28, 3) := by decide +kernel
theorem dX4_read_55 : decode cX4_read 55 = .ok (.iload_n 2, 1) := by decide +kernel
theorem dX4_read_56 : decode cX4_read 56 = .ok (.bipush 16, 2) := by decide +kernel
theorem dX4_read_58 : decode cX4_read 58 = .ok (.imul, 1) := by decide +kernel
theorem dX4_read_59 : decode cX4_read 59 = .ok (.iload_n 3, 1) := by decide +kernel
theorem dX4_read_60 : decode cX4_read 60 = .ok (.iadd, 1) := by decide +kernel
theorem dX4_read_61 : decode cX4_read 61 = .ok (.iload 4, 2) := by decide +kernel
theorem dX4_read_63 : decode cX4_read 63 = .ok (.iastore, 1) := by decide +kernel
theorem dX4_read_64 : decode cX4_read 64 = .ok (.aload_n 0, 1) := by decide +kernel
theorem dX4_read_65 : decode cX4_read 65 = .ok (.getfield 28, 3) := by decide +kernel
theorem dX4_read_68 : decode cX4_read 68 = .ok (.iload_n 3, 1) := by decide +kernel
theorem dX4_read_69 : decode cX4_read 69 = .ok (.bipush 16, 2) := by decide +kernel
theorem dX4_read_71 : decode cX4_read 71 = .ok (.imul, 1) := by decide +kernel
theorem dX4_read_72 : decode cX4_read 72 = .ok (.iload_n 2, 1) := by decide +kernel
theorem dX4_read_73 : decode cX4_read 73 = .ok (.iadd, 1) := by decide +kernel
theorem dX4_read_74 : decode cX4_read 74 = .ok (.iload 4, 2) := by decide +kernel
theorem dX4_read_76 : decode cX4_read 76 = .ok (.iastore, 1) := by decide +kernel
theorem dX4_read_77 : decode cX4_read 77 = .ok (.iinc 3 1, 3) := by decide +kernel
theorem dX4_read_80 : decode cX4_read 80 = .ok (.goto (-42), 3) := by decide +kernel
theorem dX4_read_83 : decode cX4_read 83 = .ok (.iinc 2 1, 3) := by decide +kernel
theorem dX4_read_86 : decode cX4_read 86 = .ok (.goto (-65), 3) := by decide +kernel
theorem dX4_read_89 : decode cX4_read 89 = .ok (.return_, 1) := by decide +kernel
theorem dX4_unlikeAt_0 : decode cX4_unlikeAt 0 = .ok (.aload_n 0, 1) := by decide +kernel
theorem dX4_unlikeAt_1 : decode cX4_unlikeAt 1 = .ok (.getfield 28, 3) := by decide +kernel
theorem dX4_unlikeAt_4 : decode cX4_unlikeAt 4 = .ok (.aload_n 0, 1) := by decide +kernel
theorem dX4_unlikeAt_5 : decode cX4_unlikeAt 5 = .ok (.getfield 9, 3) := by decide +kernel
theorem dX4_unlikeAt_8 : decode cX4_unlikeAt 8 = .ok (.iload_n 1, 1) := by decide +kernel
theorem dX4_unlikeAt_9 : decode cX4_unlikeAt 9 = .ok (.iaload, 1) := by decide +kernel
theorem dX4_unlikeAt_10 : decode cX4_unlikeAt 10 = .ok (.bipush 16, 2) := by decide +kernel
theorem dX4_unlikeAt_12 : decode cX4_unlikeAt 12 = .ok (.imul, 1) := by decide +kernel
theorem dX4_unlikeAt_13 : decode cX4_unlikeAt 13 = .ok (.aload_n 0, 1) := by decide +kernel
theorem dX4_unlikeAt_14 : decode cX4_unlikeAt 14 = .ok (.getfield 9, 3) := by decide +kernel
theorem dX4_unlikeAt_17 : decode cX4_unlikeAt 17 = .ok (.iload_n 2, 1) := by decide +kernel
theorem dX4_unlikeAt_18 : decode cX4_unlikeAt 18 = .ok (.iaload, 1) := by decide +kernel
theorem dX4_unlikeAt_19 : decode cX4_unlikeAt 19 = .ok (.iadd, 1) := by decide +kernel
theorem dX4_unlikeAt_20 : decode cX4_unlikeAt 20 = .ok (.iaload, 1) := by decide +kernel
theorem dX4_unlikeAt_21 : decode cX4_unlikeAt 21 = .ok (.ireturn, 1) := by decide +kernel
set_option maxRecDepth 20000 in
theorem ggX4_runsOfLine_X4_unlikeAt : GoodIn wsX4_runsOfLine wsX4_unlikeAt := goodIn_r _ [7, 8, 9, 10, 11, 12, 13, 14, 15, 16, 17] (by decide +kernel) (by decide +kernel)
set_option maxRecDepth 20000 in
theorem gX4_runsOfLine_X4_unlikeAt : GoodIn wsX4_runsOfLine (wsV RX4 55 RX4 yX4_unlikeAt wsX4_unlikeAt) := goodIn_app (goodIn_of _ (by decide +kernel)) ggX4_runsOfLine_X4_unlikeAt
theorem dX4_runsOfLine_0 : decode cX4_runsOfLine 0 = .ok (.aload_n 0, 1) := by decide +kernel
theorem dX4_runsOfLine_1 : decode cX4_runsOfLine 1 = .ok (.getfield 37, 3) := by decide +kernel
theorem dX4_runsOfLine_4 : decode cX4_runsOfLine 4 = .ok (.ifCond .le 10, 3) := by decide +kernel
theorem dX4_runsOfLine_7 : decode cX4_runsOfLine 7 = .ok (.aload_n 0, 1) := by decide +kernel
theorem dX4_runsOfLine_8 : decode cX4_runsOfLine 8 = .ok (.getfield 48, 3) := by decide +kernel
theorem dX4_runsOfLine_11 : decode cX4_runsOfLine 11 = .ok (.goto 4, 3) := by decide +kernel
theorem dX4_runsOfLine_14 : decode cX4_runsOfLine 14 = .ok (.iconst 0, 1) := by decide +kernel
theorem dX4_runsOfLine_15 : decode cX4_runsOfLine 15 = .ok (.istore_n 1, 1) := by decide +kernel
theorem dX4_runsOfLine_16 : decode cX4_runsOfLine 16 = .ok (.iconst 1, 1) := by decide +kernel
theorem dX4_runsOfLine_17 : decode cX4_runsOfLine 17 = .ok (.istore_n 2, 1) := by decide +kernel
theorem dX4_runsOfLine_18 : decode cX4_runsOfLine 18 = .ok (.iload_n 2, 1) := by decide +kernel
theorem dX4_runsOfLine_19 : decode cX4_runsOfLine 19 = .ok (.aload_n 0, 1) := by decide +kernel
theorem dX4_runsOfLine_20 : decode cX4_runsOfLine 20 = .ok (.getfield 37, 3) := by decide +kernel
theorem dX4_runsOfLine_23 : decode cX4_runsOfLine 23 = .ok (.if_icmp .ge 20, 3) := by decide +kernel
theorem dX4_runsOfLine_26 : decode cX4_runsOfLine 26 = .ok (.iload_n 1, 1) := by decide +kernel
theorem dX4_runsOfLine_27 : decode cX4_runsOfLine 27 = .ok (.aload_n 0, 1) := by decide +kernel
theorem dX4_runsOfLine_28 : decode cX4_runsOfLine 28 = .ok (.iload_n 2, 1) := by decide +kernel
theorem dX4_runsOfLine_29 : decode cX4_runsOfLine 29 = .ok (.iconst 1, 1) := by decide +kernel
theorem dX4_runsOfLine_30 : decode cX4_runsOfLine 30 = .ok (.isub, 1) := by decide +kernel
theorem dX4_runsOfLine_31 : decode cX4_runsOfLine 31 = .ok (.iload_n 2, 1) := by decide +kernel
theorem dX4_runsOfLine_32 : decode cX4_runsOfLine 32 = .ok (.invokevirtual 55, 3) := by decide +kernel
theorem dX4_runsOfLine_35 : decode cX4_runsOfLine 35 = .ok (.iadd, 1) := by decide +kernel
theorem dX4_runsOfLine_36 : decode cX4_runsOfLine 36 = .ok (.istore_n 1, 1) := by decide +kernel
theorem dX4_runsOfLine_37 : decode cX4_runsOfLine 37 = .ok (.iinc 2 1, 3) := by decide +kernel
theorem dX4_runsOfLine_40 : decode cX4_runsOfLine 40 = .ok (.goto (-22), 3) := by decide +kernel
theorem dX4_runsOfLine_43 : decode cX4_runsOfLine 43 = .ok (.iload_n 1, 1) := by decide +kernel
theorem dX4_runsOfLine_44 : decode cX4_runsOfLine 44 = .ok (.ireturn, 1) := by decide +kernel
theorem dX4_exchange_0 : decode cX4_exchange 0 = .ok (.aload_n 0, 1) := by decide +kernel
theorem dX4_exchange_1 : decode cX4_exchange 1 = .ok (.getfield 9, 3) := by decide +kernel
theorem dX4_exchange_4 : decode cX4_exchange 4 = .ok (.iload_n 1, 1) := by decide +kernel
theorem dX4_exchange_5 : decode cX4_exchange 5 = .ok (.iaload, 1) := by decide +kernel
theorem dX4_exchange_6 : decode cX4_exchange 6 = .ok (.istore_n 3, 1) := by decide +kernel
theorem dX4_exchange_7 : decode cX4_exchange 7 = .ok (.aload_n 0, 1) := by decide +kernel
theorem dX4_exchange_8 : decode cX4_exchange 8 = .ok (.getfield 9, 3) := by decide +kernel
theorem dX4_exchange_11 : decode cX4_exchange 11 = .ok (.iload_n 1, 1) := by decide +kernel
theorem dX4_exchange_12 : decode cX4_exchange 12 = .ok (.aload_n 0, 1) := by decide +kernel
theorem dX4_exchange_13 : decode cX4_exchange 13 = .ok (.getfield 9, 3) := by decide +kernel
theorem dX4_exchange_16 : decode cX4_exchange 16 = .ok (.iload_n 2, 1) := by decide +kernel
theorem dX4_exchange_17 : decode cX4_exchange 17 = .ok (.iaload, 1) := by decide +kernel
theorem dX4_exchange_18 : decode cX4_exchange 18 = .ok (.iastore, 1) := by decide +kernel
theorem dX4_exchange_19 : decode cX4_exchange 19 = .ok (.aload_n 0, 1) := by decide +kernel
theorem dX4_exchange_20 : decode cX4_exchange 20 = .ok (.getfield 9, 3) := by decide +kernel
theorem dX4_exchange_23 : decode cX4_exchange 23 = .ok (.iload_n 2, 1) := by decide +kernel
theorem dX4_exchange_24 : decode cX4_exchange 24 = .ok (.iload_n 3, 1) := by decide +kernel
theorem dX4_exchange_25 : decode cX4_exchange 25 = .ok (.iastore, 1) := by decide +kernel
theorem dX4_exchange_26 : decode cX4_exchange 26 = .ok (.return_, 1) := by decide +kernel
theorem dX4_shift_0 : decode cX4_shift 0 = .ok (.aload_n 0, 1) := by decide +kernel
theorem dX4_shift_1 : decode cX4_shift 1 = .ok (.getfield 9, 3) := by decide +kernel
theorem dX4_shift_4 : decode cX4_shift 4 = .ok (.iload_n 1, 1) := by decide +kernel
theorem dX4_shift_5 : decode cX4_shift 5 = .ok (.iaload, 1) := by decide +kernel
theorem dX4_shift_6 : decode cX4_shift 6 = .ok (.istore_n 3, 1) := by decide +kernel
theorem dX4_shift_7 : decode cX4_shift 7 = .ok (.iload_n 1, 1) := by decide +kernel
theorem dX4_shift_8 : decode cX4_shift 8 = .ok (.istore 4, 2) := by decide +kernel
theorem dX4_shift_10 : decode cX4_shift 10 = .ok (.iload 4, 2) := by decide +kernel
theorem dX4_shift_12 : decode cX4_shift 12 = .ok (.iload_n 2, 1) := by decide +kernel
theorem dX4_shift_13 : decode cX4_shift 13 = .ok (.if_icmp .ge 25, 3) := by decide +kernel
theorem dX4_shift_16 : decode cX4_shift 16 = .ok (.aload_n 0, 1) := by decide +kernel
theorem dX4_shift_17 : decode cX4_shift 17 = .ok (.getfield 9, 3) := by decide +kernel
theorem dX4_shift_20 : decode cX4_shift 20 = .ok (.iload 4, 2) := by decide +kernel
theorem dX4_shift_22 : decode cX4_shift 22 = .ok (.aload_n 0, 1) := by decide +kernel
theorem dX4_shift_23 : decode cX4_shift 23 = .ok (.getfield 9, 3) := by decide +kernel
theorem dX4_shift_26 : decode cX4_shift 26 = .ok (.iload 4, 2) := by decide +kernel
theorem dX4_shift_28 : decode cX4_shift 28 = .ok (.iconst 1, 1) := by decide +kernel
theorem dX4_shift_29 : decode cX4_shift 29 = .ok (.iadd, 1) := by decide +kernel
theorem dX4_shift_30 : decode cX4_shift 30 = .ok (.iaload, 1) := by decide +kernel
theorem dX4_shift_31 : decode cX4_shift 31 = .ok (.iastore, 1) := by decide +kernel
theorem dX4_shift_32 : decode cX4_shift 32 = .ok (.iinc 4 1, 3) := by decide +kernel
theorem dX4_shift_35 : decode cX4_shift 35 = .ok (.goto (-25), 3) := by decide +kernel
theorem dX4_shift_38 : decode cX4_shift 38 = .ok (.iload_n 1, 1) := by decide +kernel
theorem dX4_shift_39 : decode cX4_shift 39 = .ok (.istore 4, 2) := by decide +kernel
theorem dX4_shift_41 : decode cX4_shift 41 = .ok (.iload 4, 2) := by decide +kernel
theorem dX4_shift_43 : decode cX4_shift 43 = .ok (.iload_n 2, 1) := by decide +kernel
theorem dX4_shift_44 : decode cX4_shift 44 = .ok (.if_icmp .le 25, 3) := by decide +kernel
theorem dX4_shift_47 : decode cX4_shift 47 = .ok (.aload_n 0, 1) := by decide +kernel
theorem dX4_shift_48 : decode cX4_shift 48 = .ok (.getfield 9, 3) := by decide +kernel
theorem dX4_shift_51 : decode cX4_shift 51 = .ok (.iload 4, 2) := by decide +kernel
theorem dX4_shift_53 : decode cX4_shift 53 = .ok (.aload_n 0, 1) := by decide +kernel
theorem dX4_shift_54 : decode cX4_shift 54 = .ok (.getfield 9, 3) := by decide +kernel
theorem dX4_shift_57 : decode cX4_shift 57 = .ok (.iload 4, 2) := by decide +kernel
theorem dX4_shift_59 : decode cX4_shift 59 = .ok (.iconst 1, 1) := by decide +kernel
theorem dX4_shift_60 : decode cX4_shift 60 = .ok (.isub, 1) := by decide +kernel
theorem dX4_shift_61 : decode cX4_shift 61 = .ok (.iaload, 1) := by decide +kernel
theorem dX4_shift_62 : decode cX4_shift 62 = .ok (.iastore, 1) := by decide +kernel
theorem dX4_shift_63 : decode cX4_shift 63 = .ok (.iinc 4 (-1), 3) := by decide +kernel
theorem dX4_shift_66 : decode cX4_shift 66 = .ok (.goto (-25), 3) := by decide +kernel
theorem dX4_shift_69 : decode cX4_shift 69 = .ok (.aload_n 0, 1) := by decide +kernel
theorem dX4_shift_70 : decode cX4_shift 70 = .ok (.getfield 9, 3) := by decide +kernel
theorem dX4_shift_73 : decode cX4_shift 73 = .ok (.iload_n 2, 1) := by decide +kernel
theorem dX4_shift_74 : decode cX4_shift 74 = .ok (.iload_n 3, 1) := by decide +kernel
theorem dX4_shift_75 : decode cX4_shift 75 = .ok (.iastore, 1) := by decide +kernel
theorem dX4_shift_76 : decode cX4_shift 76 = .ok (.return_, 1) := by decide +kernel
theorem dX4_followTags_0 : decode cX4_followTags 0 = .ok (.iconst 0, 1) := by decide +kernel
theorem dX4_followTags_1 : decode cX4_followTags 1 = .ok (.istore_n 2, 1) := by decide +kernel
theorem dX4_followTags_2 : decode cX4_followTags 2 = .ok (.iload_n 2, 1) := by decide +kernel
theorem dX4_followTags_3 : decode cX4_followTags 3 = .ok (.aload_n 0, 1) := by decide +kernel
theorem dX4_followTags_4 : decode cX4_followTags 4 = .ok (.getfield 37, 3) := by decide +kernel
theorem dX4_followTags_7 : decode cX4_followTags 7 = .ok (.if_icmp .ge 42, 3) := by decide +kernel
theorem dX4_followTags_10 : decode cX4_followTags 10 = .ok (.iconst 0, 1) := by decide +kernel
theorem dX4_followTags_11 : decode cX4_followTags 11 = .ok (.istore_n 3, 1) := by decide +kernel
theorem dX4_followTags_12 : decode cX4_followTags 12 = .ok (.iload_n 3, 1) := by decide +kernel
theorem dX4_followTags_13 : decode cX4_followTags 13 = .ok (.aload_n 0, 1) := by decide +kernel
theorem dX4_followTags_14 : decode cX4_followTags 14 = .ok (.getfield 37, 3) := by decide +kernel
theorem dX4_followTags_17 : decode cX4_followTags 17 = .ok (.if_icmp .ge 26, 3) := by decide +kernel
theorem dX4_followTags_20 : decode cX4_followTags 20 = .ok (.aload_n 1, 1) := by decide +kernel
theorem dX4_followTags_21 : decode cX4_followTags 21 = .ok (.getfield 58, 3) := by decide +kernel
theorem dX4_followTags_24 : decode cX4_followTags 24 = .ok (.iload_n 3, 1) := by decide +kernel
theorem dX4_followTags_25 : decode cX4_followTags 25 = .ok (.iaload, 1) := by decide +kernel
theorem dX4_followTags_26 : decode cX4_followTags 26 = .ok (.iload_n 2, 1) := by decide +kernel
theorem dX4_followTags_27 : decode cX4_followTags 27 = .ok (.if_icmp .ne 10, 3) := by decide +kernel
theorem dX4_followTags_30 : decode cX4_followTags 30 = .ok (.aload_n 0, 1) := by decide +kernel
theorem dX4_followTags_31 : decode cX4_followTags 31 = .ok (.getfield 9, 3) := by decide +kernel
theorem dX4_followTags_34 : decode cX4_followTags 34 = .ok (.iload_n 2, 1) := by decide +kernel
theorem dX4_followTags_35 : decode cX4_followTags 35 = .ok (.iload_n 3, 1) := by decide +kernel
theorem dX4_followTags_36 : decode cX4_followTags 36 = .ok (.iastore, 1) := by decide +kernel
theorem dX4_followTags_37 : decode cX4_followTags 37 = .ok (.iinc 3 1, 3) := by decide +kernel
theorem dX4_followTags_40 : decode cX4_followTags 40 = .ok (.goto (-28), 3) := by decide +kernel
theorem dX4_followTags_43 : decode cX4_followTags 43 = .ok (.iinc 2 1, 3) := by decide +kernel
theorem dX4_followTags_46 : decode cX4_followTags 46 = .ok (.goto (-44), 3) := by decide +kernel
theorem dX4_followTags_49 : decode cX4_followTags 49 = .ok (.return_, 1) := by decide +kernel
set_option maxRecDepth 20000 in
theorem ggX4_sortBy_X4_key : GoodIn wsX4_sortBy wsX4_key := goodIn_r _ [7, 8, 9, 10, 11, 12, 13, 14, 15, 24, 25, 26, 27, 28, 29] (by decide +kernel) (by decide +kernel)
set_option maxRecDepth 20000 in
theorem gX4_sortBy_X4_key : GoodIn wsX4_sortBy (va_wsS RX4 59 yX4_key wsX4_key) := goodIn_app (goodIn_of _ (by decide +kernel)) ggX4_sortBy_X4_key
theorem dX4_sortBy_0 : decode cX4_sortBy 0 = .ok (.iconst 0, 1) := by decide +kernel
theorem dX4_sortBy_1 : decode cX4_sortBy 1 = .ok (.istore 4, 2) := by decide +kernel
theorem dX4_sortBy_3 : decode cX4_sortBy 3 = .ok (.iload 4, 2) := by decide +kernel
theorem dX4_sortBy_5 : decode cX4_sortBy 5 = .ok (.aload_n 0, 1) := by decide +kernel
theorem dX4_sortBy_6 : decode cX4_sortBy 6 = .ok (.getfield 37, 3) := by decide +kernel
theorem dX4_sortBy_9 : decode cX4_sortBy 9 = .ok (.if_icmp .ge 98, 3) := by decide +kernel
theorem dX4_sortBy_12 : decode cX4_sortBy 12 = .ok (.aload_n 1, 1) := by decide +kernel
theorem dX4_sortBy_13 : decode cX4_sortBy 13 = .ok (.aload_n 2, 1) := by decide +kernel
theorem dX4_sortBy_14 : decode cX4_sortBy 14 = .ok (.iload_n 3, 1) := by decide +kernel
theorem dX4_sortBy_15 : decode cX4_sortBy 15 = .ok (.iload 4, 2) := by decide +kernel
theorem dX4_sortBy_17 : decode cX4_sortBy 17 = .ok (.invokestatic 59, 3) := by decide +kernel
theorem dX4_sortBy_20 : decode cX4_sortBy 20 = .ok (.istore 5, 2) := by decide +kernel
theorem dX4_sortBy_22 : decode cX4_sortBy 22 = .ok (.iload 4, 2) := by decide +kernel
theorem dX4_sortBy_24 : decode cX4_sortBy 24 = .ok (.istore 6, 2) := by decide +kernel
theorem dX4_sortBy_26 : decode cX4_sortBy 26 = .ok (.iload 6, 2) := by decide +kernel
theorem dX4_sortBy_28 : decode cX4_sortBy 28 = .ok (.ifCond .le 55, 3) := by decide +kernel
theorem dX4_sortBy_31 : decode cX4_sortBy 31 = .ok (.aload_n 0, 1) := by decide +kernel
theorem dX4_sortBy_32 : decode cX4_sortBy 32 = .ok (.getfield 18, 3) := by decide +kernel
theorem dX4_sortBy_35 : decode cX4_sortBy 35 = .ok (.iload 6, 2) := by decide +kernel
theorem dX4_sortBy_37 : decode cX4_sortBy 37 = .ok (.iconst 1, 1) := by decide +kernel
theorem dX4_sortBy_38 : decode cX4_sortBy 38 = .ok (.isub, 1) := by decide +kernel
theorem dX4_sortBy_39 : decode cX4_sortBy 39 = .ok (.iaload, 1) := by decide +kernel
theorem dX4_sortBy_40 : decode cX4_sortBy 40 = .ok (.iload 5, 2) := by decide +kernel
theorem dX4_sortBy_42 : decode cX4_sortBy 42 = .ok (.if_icmp .le 41, 3) := by decide +kernel
theorem dX4_sortBy_45 : decode cX4_sortBy 45 = .ok (.aload_n 0, 1) := by decide +kernel
theorem dX4_sortBy_46 : decode cX4_sortBy 46 = .ok (.getfield 18, 3) := by decide +kernel
theorem dX4_sortBy_49 : decode cX4_sortBy 49 = .ok (.iload 6, 2) := by decide +kernel
theorem dX4_sortBy_51 : decode cX4_sortBy 51 = .ok (.aload_n 0, 1) := by decide +kernel
theorem dX4_sortBy_52 : decode cX4_sortBy 52 = .ok (.getfield 18, 3) := by decide +kernel
theorem dX4_sortBy_55 : decode cX4_sortBy 55 = .ok (.iload 6, 2) := by decide +kernel
theorem dX4_sortBy_57 : decode cX4_sortBy 57 = .ok (.iconst 1, 1) := by decide +kernel
theorem dX4_sortBy_58 : decode cX4_sortBy 58 = .ok (.isub, 1) := by decide +kernel
theorem dX4_sortBy_59 : decode cX4_sortBy 59 = .ok (.iaload, 1) := by decide +kernel
theorem dX4_sortBy_60 : decode cX4_sortBy 60 = .ok (.iastore, 1) := by decide +kernel
theorem dX4_sortBy_61 : decode cX4_sortBy 61 = .ok (.aload_n 0, 1) := by decide +kernel
theorem dX4_sortBy_62 : decode cX4_sortBy 62 = .ok (.getfield 9, 3) := by decide +kernel
theorem dX4_sortBy_65 : decode cX4_sortBy 65 = .ok (.iload 6, 2) := by decide +kernel
theorem dX4_sortBy_67 : decode cX4_sortBy 67 = .ok (.aload_n 0, 1) := by decide +kernel
theorem dX4_sortBy_68 : decode cX4_sortBy 68 = .ok (.getfield 9, 3) := by decide +kernel
theorem dX4_sortBy_71 : decode cX4_sortBy 71 = .ok (.iload 6, 2) := by decide +kernel
theorem dX4_sortBy_73 : decode cX4_sortBy 73 = .ok (.iconst 1, 1) := by decide +kernel
theorem dX4_sortBy_74 : decode cX4_sortBy 74 = .ok (.isub, 1) := by decide +kernel
theorem dX4_sortBy_75 : decode cX4_sortBy 75 = .ok (.iaload, 1) := by decide +kernel
theorem dX4_sortBy_76 : decode cX4_sortBy 76 = .ok (.iastore, 1) := by decide +kernel
theorem dX4_sortBy_77 : decode cX4_sortBy 77 = .ok (.iinc 6 (-1), 3) := by decide +kernel
theorem dX4_sortBy_80 : decode cX4_sortBy 80 = .ok (.goto (-54), 3) := by decide +kernel
theorem dX4_sortBy_83 : decode cX4_sortBy 83 = .ok (.aload_n 0, 1) := by decide +kernel
theorem dX4_sortBy_84 : decode cX4_sortBy 84 = .ok (.getfield 18, 3) := by decide +kernel
theorem dX4_sortBy_87 : decode cX4_sortBy 87 = .ok (.iload 6, 2) := by decide +kernel
theorem dX4_sortBy_89 : decode cX4_sortBy 89 = .ok (.iload 5, 2) := by decide +kernel
theorem dX4_sortBy_91 : decode cX4_sortBy 91 = .ok (.iastore, 1) := by decide +kernel
theorem dX4_sortBy_92 : decode cX4_sortBy 92 = .ok (.aload_n 0, 1) := by decide +kernel
theorem dX4_sortBy_93 : decode cX4_sortBy 93 = .ok (.getfield 9, 3) := by decide +kernel
theorem dX4_sortBy_96 : decode cX4_sortBy 96 = .ok (.iload 6, 2) := by decide +kernel
theorem dX4_sortBy_98 : decode cX4_sortBy 98 = .ok (.iload 4, 2) := by decide +kernel
theorem dX4_sortBy_100 : decode cX4_sortBy 100 = .ok (.iastore, 1) := by decide +kernel
theorem dX4_sortBy_101 : decode cX4_sortBy 101 = .ok (.iinc 4 1, 3) := by decide +kernel
theorem dX4_sortBy_104 : decode cX4_sortBy 104 = .ok (.goto (-101), 3) := by decide +kernel
theorem dX4_sortBy_107 : decode cX4_sortBy 107 = .ok (.return_, 1) := by decide +kernel
set_option maxRecDepth 20000 in
theorem ggX4_key_X6_of : GoodIn wsX4_key wsX6_of := goodIn_r _ [7, 8, 11, 12, 13, 14] (by decide +kernel) (by decide +kernel)
set_option maxRecDepth 20000 in
theorem gX4_key_X6_of : GoodIn wsX4_key (wsV RX4 71 RX6 yX6_of wsX6_of) := goodIn_app (goodIn_of _ (by decide +kernel)) ggX4_key_X6_of
theorem dX4_key_0 : decode cX4_key 0 = .ok (.iconst 0, 1) := by decide +kernel
theorem dX4_key_1 : decode cX4_key 1 = .ok (.istore 4, 2) := by decide +kernel
theorem dX4_key_3 : decode cX4_key 3 = .ok (.iconst 0, 1) := by decide +kernel
theorem dX4_key_4 : decode cX4_key 4 = .ok (.istore 5, 2) := by decide +kernel
theorem dX4_key_6 : decode cX4_key 6 = .ok (.iconst 0, 1) := by decide +kernel
theorem dX4_key_7 : decode cX4_key 7 = .ok (.istore 6, 2) := by decide +kernel
theorem dX4_key_9 : decode cX4_key 9 = .ok (.iload 6, 2) := by decide +kernel
theorem dX4_key_11 : decode cX4_key 11 = .ok (.aload_n 0, 1) := by decide +kernel
theorem dX4_key_12 : decode cX4_key 12 = .ok (.getfield 63, 3) := by decide +kernel
theorem dX4_key_15 : decode cX4_key 15 = .ok (.if_icmp .ge 72, 3) := by decide +kernel
theorem dX4_key_18 : decode cX4_key 18 = .ok (.aload_n 1, 1) := by decide +kernel
theorem dX4_key_19 : decode cX4_key 19 = .ok (.aload_n 0, 1) := by decide +kernel
theorem dX4_key_20 : decode cX4_key 20 = .ok (.getfield 68, 3) := by decide +kernel
theorem dX4_key_23 : decode cX4_key 23 = .ok (.iload 6, 2) := by decide +kernel
theorem dX4_key_25 : decode cX4_key 25 = .ok (.iaload, 1) := by decide +kernel
theorem dX4_key_26 : decode cX4_key 26 = .ok (.iload_n 3, 1) := by decide +kernel
theorem dX4_key_27 : decode cX4_key 27 = .ok (.invokevirtual 71, 3) := by decide +kernel
theorem dX4_key_30 : decode cX4_key 30 = .ok (.istore 7, 2) := by decide +kernel
theorem dX4_key_32 : decode cX4_key 32 = .ok (.iload_n 2, 1) := by decide +kernel
theorem dX4_key_33 : decode cX4_key 33 = .ok (.ifCond .eq 15, 3) := by decide +kernel
theorem dX4_key_36 : decode cX4_key 36 = .ok (.iload 5, 2) := by decide +kernel
theorem dX4_key_38 : decode cX4_key 38 = .ok (.iconst 1, 1) := by decide +kernel
theorem dX4_key_39 : decode cX4_key 39 = .ok (.iand, 1) := by decide +kernel
theorem dX4_key_40 : decode cX4_key 40 = .ok (.iconst 1, 1) := by decide +kernel
theorem dX4_key_41 : decode cX4_key 41 = .ok (.if_icmp .ne 7, 3) := by decide +kernel
theorem dX4_key_44 : decode cX4_key 44 = .ok (.iconst 1, 1) := by decide +kernel
theorem dX4_key_45 : decode cX4_key 45 = .ok (.goto 4, 3) := by decide +kernel
theorem dX4_key_48 : decode cX4_key 48 = .ok (.iconst 0, 1) := by decide +kernel
theorem dX4_key_49 : decode cX4_key 49 = .ok (.istore 8, 2) := by decide +kernel
theorem dX4_key_51 : decode cX4_key 51 = .ok (.iload 4, 2) := by decide +kernel
theorem dX4_key_53 : decode cX4_key 53 = .ok (.bipush 16, 2) := by decide +kernel
theorem dX4_key_55 : decode cX4_key 55 = .ok (.imul, 1) := by decide +kernel
theorem dX4_key_56 : decode cX4_key 56 = .ok (.iload 8, 2) := by decide +kernel
theorem dX4_key_58 : decode cX4_key 58 = .ok (.ifCond .eq 11, 3) := by decide +kernel
theorem dX4_key_61 : decode cX4_key 61 = .ok (.bipush 15, 2) := by decide +kernel
theorem dX4_key_63 : decode cX4_key 63 = .ok (.iload 7, 2) := by decide +kernel
theorem dX4_key_65 : decode cX4_key 65 = .ok (.isub, 1) := by decide +kernel
theorem dX4_key_66 : decode cX4_key 66 = .ok (.goto 5, 3) := by decide +kernel
theorem dX4_key_69 : decode cX4_key 69 = .ok (.iload 7, 2) := by decide +kernel
theorem dX4_key_71 : decode cX4_key 71 = .ok (.iadd, 1) := by decide +kernel
theorem dX4_key_72 : decode cX4_key 72 = .ok (.istore 4, 2) := by decide +kernel
theorem dX4_key_74 : decode cX4_key 74 = .ok (.iload 5, 2) := by decide +kernel
theorem dX4_key_76 : decode cX4_key 76 = .ok (.iload 7, 2) := by decide +kernel
theorem dX4_key_78 : decode cX4_key 78 = .ok (.iadd, 1) := by decide +kernel
theorem dX4_key_79 : decode cX4_key 79 = .ok (.istore 5, 2) := by decide +kernel
theorem dX4_key_81 : decode cX4_key 81 = .ok (.iinc 6 1, 3) := by decide +kernel
theorem dX4_key_84 : decode cX4_key 84 = .ok (.goto (-75), 3) := by decide +kernel
theorem dX4_key_87 : decode cX4_key 87 = .ok (.iload 4, 2) := by decide +kernel
theorem dX4_key_89 : decode cX4_key 89 = .ok (.ireturn, 1) := by decide +kernel
set_option maxRecDepth 20000 in
theorem ggX4_tourBlocks_X4_tourBlock : GoodIn wsX4_tourBlocks wsX4_tourBlock := goodIn_r _ [13, 14, 15, 16, 17, 18, 19, 20, 21, 22, 12, 23, 1, 24, 25, 26, 27, 28, 29, 30, 31, 32, 33, 34, 35, 36, 37, 38, 39, 40, 41, 42, 43, 44, 45] (by decide +kernel) (by decide +kernel)
set_option maxRecDepth 20000 in
theorem gX4_tourBlocks_X4_tourBlock : GoodIn wsX4_tourBlocks (wsV RX4 81 RX4 yX4_tourBlock wsX4_tourBlock) := goodIn_app (goodIn_of _ (by decide +kernel)) ggX4_tourBlocks_X4_tourBlock
theorem dX4_tourBlocks_0 : decode cX4_tourBlocks 0 = .ok (.iconst 0, 1) := by decide +kernel
theorem dX4_tourBlocks_1 : decode cX4_tourBlocks 1 = .ok (.istore_n 2, 1) := by decide +kernel
theorem dX4_tourBlocks_2 : decode cX4_tourBlocks 2 = .ok (.iconst 0, 1) := by decide +kernel
theorem dX4_tourBlocks_3 : decode cX4_tourBlocks 3 = .ok (.istore_n 3, 1) := by decide +kernel
theorem dX4_tourBlocks_4 : decode cX4_tourBlocks 4 = .ok (.iload_n 3, 1) := by decide +kernel
theorem dX4_tourBlocks_5 : decode cX4_tourBlocks 5 = .ok (.aload_n 0, 1) := by decide +kernel
theorem dX4_tourBlocks_6 : decode cX4_tourBlocks 6 = .ok (.getfield 37, 3) := by decide +kernel
theorem dX4_tourBlocks_9 : decode cX4_tourBlocks 9 = .ok (.if_icmp .ge 35, 3) := by decide +kernel
theorem dX4_tourBlocks_12 : decode cX4_tourBlocks 12 = .ok (.aload_n 0, 1) := by decide +kernel
theorem dX4_tourBlocks_13 : decode cX4_tourBlocks 13 = .ok (.iload_n 3, 1) := by decide +kernel
theorem dX4_tourBlocks_14 : decode cX4_tourBlocks 14 = .ok (.iload_n 3, 1) := by decide +kernel
theorem dX4_tourBlocks_15 : decode cX4_tourBlocks 15 = .ok (.iload_n 1, 1) := by decide +kernel
theorem dX4_tourBlocks_16 : decode cX4_tourBlocks 16 = .ok (.iadd, 1) := by decide +kernel
theorem dX4_tourBlocks_17 : decode cX4_tourBlocks 17 = .ok (.aload_n 0, 1) := by decide +kernel
theorem dX4_tourBlocks_18 : decode cX4_tourBlocks 18 = .ok (.getfield 37, 3) := by decide +kernel
theorem dX4_tourBlocks_21 : decode cX4_tourBlocks 21 = .ok (.invokestatic 76, 3) := by decide +kernel
theorem dX4_tourBlocks_24 : decode cX4_tourBlocks 24 = .ok (.invokevirtual 81, 3) := by decide +kernel
theorem dX4_tourBlocks_27 : decode cX4_tourBlocks 27 = .ok (.ifCond .eq 6, 3) := by decide +kernel
theorem dX4_tourBlocks_30 : decode cX4_tourBlocks 30 = .ok (.iinc 2 1, 3) := by decide +kernel
theorem dX4_tourBlocks_33 : decode cX4_tourBlocks 33 = .ok (.iload_n 3, 1) := by decide +kernel
theorem dX4_tourBlocks_34 : decode cX4_tourBlocks 34 = .ok (.iconst 1, 1) := by decide +kernel
theorem dX4_tourBlocks_35 : decode cX4_tourBlocks 35 = .ok (.iload_n 1, 1) := by decide +kernel
theorem dX4_tourBlocks_36 : decode cX4_tourBlocks 36 = .ok (.invokestatic 85, 3) := by decide +kernel
theorem dX4_tourBlocks_39 : decode cX4_tourBlocks 39 = .ok (.iadd, 1) := by decide +kernel
theorem dX4_tourBlocks_40 : decode cX4_tourBlocks 40 = .ok (.istore_n 3, 1) := by decide +kernel
theorem dX4_tourBlocks_41 : decode cX4_tourBlocks 41 = .ok (.goto (-37), 3) := by decide +kernel
theorem dX4_tourBlocks_44 : decode cX4_tourBlocks 44 = .ok (.iload_n 2, 1) := by decide +kernel
theorem dX4_tourBlocks_45 : decode cX4_tourBlocks 45 = .ok (.ireturn, 1) := by decide +kernel
set_option maxRecDepth 20000 in
theorem ggX4_tourBlock_X4_runsOfLine : GoodIn wsX4_tourBlock wsX4_runsOfLine := goodIn_r _ [11, 12, 13, 14, 15, 16, 10, 17, 18, 1, 27, 28, 29, 30, 31, 32, 33, 34] (by decide +kernel) (by decide +kernel)
set_option maxRecDepth 20000 in
theorem gX4_tourBlock_X4_runsOfLine : GoodIn wsX4_tourBlock (wsV RX4 88 RX4 yX4_runsOfLine wsX4_runsOfLine) := goodIn_app (goodIn_of _ (by decide +kernel)) ggX4_tourBlock_X4_runsOfLine
set_option maxRecDepth 20000 in
theorem ggX4_tourBlock_X4_mostAlike : GoodIn wsX4_tourBlock wsX4_mostAlike := goodIn_r _ [22, 14, 15, 16, 10, 17, 18, 1, 27, 28, 29, 30, 31, 32, 33, 34] (by decide +kernel) (by decide +kernel)
set_option maxRecDepth 20000 in
theorem gX4_tourBlock_X4_mostAlike : GoodIn wsX4_tourBlock (wsV RX4 97 RX4 yX4_mostAlike wsX4_mostAlike) := goodIn_app (goodIn_of _ (by decide +kernel)) ggX4_tourBlock_X4_mostAlike
set_option maxRecDepth 20000 in
theorem ggX4_tourBlock_X4_shift : GoodIn wsX4_tourBlock wsX4_shift := goodIn_r _ [26, 1, 27, 28, 29, 30, 31, 32, 33, 34] (by decide +kernel) (by decide +kernel)
set_option maxRecDepth 20000 in
theorem gX4_tourBlock_X4_shift : GoodIn wsX4_tourBlock (wsV RX4 100 RX4 yX4_shift wsX4_shift) := goodIn_app (goodIn_of _ (by decide +kernel)) ggX4_tourBlock_X4_shift
theorem dX4_tourBlock_0 : decode cX4_tourBlock 0 = .ok (.aload_n 0, 1) := by decide +kernel
theorem dX4_tourBlock_1 : decode cX4_tourBlock 1 = .ok (.invokevirtual 88, 3) := by decide +kernel
theorem dX4_tourBlock_4 : decode cX4_tourBlock 4 = .ok (.istore_n 3, 1) := by decide +kernel
theorem dX4_tourBlock_5 : decode cX4_tourBlock 5 = .ok (.aload_n 0, 1) := by decide +kernel
theorem dX4_tourBlock_6 : decode cX4_tourBlock 6 = .ok (.getfield 9, 3) := by decide +kernel
theorem dX4_tourBlock_9 : decode cX4_tourBlock 9 = .ok (.iload_n 1, 1) := by decide +kernel
theorem dX4_tourBlock_10 : decode cX4_tourBlock 10 = .ok (.aload_n 0, 1) := by decide +kernel
theorem dX4_tourBlock_11 : decode cX4_tourBlock 11 = .ok (.getfield 15, 3) := by decide +kernel
theorem dX4_tourBlock_14 : decode cX4_tourBlock 14 = .ok (.iload_n 1, 1) := by decide +kernel
theorem dX4_tourBlock_15 : decode cX4_tourBlock 15 = .ok (.iload_n 2, 1) := by decide +kernel
theorem dX4_tourBlock_16 : decode cX4_tourBlock 16 = .ok (.iload_n 1, 1) := by decide +kernel
theorem dX4_tourBlock_17 : decode cX4_tourBlock 17 = .ok (.isub, 1) := by decide +kernel
theorem dX4_tourBlock_18 : decode cX4_tourBlock 18 = .ok (.invokestatic 91, 3) := by decide +kernel
theorem dX4_tourBlock_21 : decode cX4_tourBlock 21 = .ok (.iload_n 1, 1) := by decide +kernel
theorem dX4_tourBlock_22 : decode cX4_tourBlock 22 = .ok (.iconst 1, 1) := by decide +kernel
theorem dX4_tourBlock_23 : decode cX4_tourBlock 23 = .ok (.iadd, 1) := by decide +kernel
theorem dX4_tourBlock_24 : decode cX4_tourBlock 24 = .ok (.istore 4, 2) := by decide +kernel
theorem dX4_tourBlock_26 : decode cX4_tourBlock 26 = .ok (.iload 4, 2) := by decide +kernel
theorem dX4_tourBlock_28 : decode cX4_tourBlock 28 = .ok (.iload_n 2, 1) := by decide +kernel
theorem dX4_tourBlock_29 : decode cX4_tourBlock 29 = .ok (.if_icmp .ge 22, 3) := by decide +kernel
theorem dX4_tourBlock_32 : decode cX4_tourBlock 32 = .ok (.aload_n 0, 1) := by decide +kernel
theorem dX4_tourBlock_33 : decode cX4_tourBlock 33 = .ok (.aload_n 0, 1) := by decide +kernel
theorem dX4_tourBlock_34 : decode cX4_tourBlock 34 = .ok (.iload 4, 2) := by decide +kernel
theorem dX4_tourBlock_36 : decode cX4_tourBlock 36 = .ok (.iload_n 2, 1) := by decide +kernel
theorem dX4_tourBlock_37 : decode cX4_tourBlock 37 = .ok (.invokevirtual 97, 3) := by decide +kernel
theorem dX4_tourBlock_40 : decode cX4_tourBlock 40 = .ok (.iload 4, 2) := by decide +kernel
theorem dX4_tourBlock_42 : decode cX4_tourBlock 42 = .ok (.invokevirtual 100, 3) := by decide +kernel
theorem dX4_tourBlock_45 : decode cX4_tourBlock 45 = .ok (.iinc 4 1, 3) := by decide +kernel
theorem dX4_tourBlock_48 : decode cX4_tourBlock 48 = .ok (.goto (-22), 3) := by decide +kernel
theorem dX4_tourBlock_51 : decode cX4_tourBlock 51 = .ok (.aload_n 0, 1) := by decide +kernel
theorem dX4_tourBlock_52 : decode cX4_tourBlock 52 = .ok (.invokevirtual 88, 3) := by decide +kernel
theorem dX4_tourBlock_55 : decode cX4_tourBlock 55 = .ok (.iload_n 3, 1) := by decide +kernel
theorem dX4_tourBlock_56 : decode cX4_tourBlock 56 = .ok (.if_icmp .ge 5, 3) := by decide +kernel
theorem dX4_tourBlock_59 : decode cX4_tourBlock 59 = .ok (.iconst 1, 1) := by decide +kernel
theorem dX4_tourBlock_60 : decode cX4_tourBlock 60 = .ok (.ireturn, 1) := by decide +kernel
theorem dX4_tourBlock_61 : decode cX4_tourBlock 61 = .ok (.aload_n 0, 1) := by decide +kernel
theorem dX4_tourBlock_62 : decode cX4_tourBlock 62 = .ok (.getfield 15, 3) := by decide +kernel
theorem dX4_tourBlock_65 : decode cX4_tourBlock 65 = .ok (.iload_n 1, 1) := by decide +kernel
theorem dX4_tourBlock_66 : decode cX4_tourBlock 66 = .ok (.aload_n 0, 1) := by decide +kernel
theorem dX4_tourBlock_67 : decode cX4_tourBlock 67 = .ok (.getfield 9, 3) := by decide +kernel
theorem dX4_tourBlock_70 : decode cX4_tourBlock 70 = .ok (.iload_n 1, 1) := by decide +kernel
theorem dX4_tourBlock_71 : decode cX4_tourBlock 71 = .ok (.iload_n 2, 1) := by decide +kernel
theorem dX4_tourBlock_72 : decode cX4_tourBlock 72 = .ok (.iload_n 1, 1) := by decide +kernel
theorem dX4_tourBlock_73 : decode cX4_tourBlock 73 = .ok (.isub, 1) := by decide +kernel
theorem dX4_tourBlock_74 : decode cX4_tourBlock 74 = .ok (.invokestatic 91, 3) := by decide +kernel
theorem dX4_tourBlock_77 : decode cX4_tourBlock 77 = .ok (.iconst 0, 1) := by decide +kernel
theorem dX4_tourBlock_78 : decode cX4_tourBlock 78 = .ok (.ireturn, 1) := by decide +kernel
set_option maxRecDepth 20000 in
theorem ggX4_mostAlike_X4_unlikeAt : GoodIn wsX4_mostAlike wsX4_unlikeAt := goodIn_r _ [5, 6, 7, 8, 9, 10, 11, 12, 13, 14, 15] (by decide +kernel) (by decide +kernel)
set_option maxRecDepth 20000 in
theorem gX4_mostAlike_X4_unlikeAt : GoodIn wsX4_mostAlike (wsV RX4 55 RX4 yX4_unlikeAt wsX4_unlikeAt) := goodIn_app (goodIn_of _ (by decide +kernel)) ggX4_mostAlike_X4_unlikeAt
theorem dX4_mostAlike_0 : decode cX4_mostAlike 0 = .ok (.iload_n 1, 1) := by decide +kernel
theorem dX4_mostAlike_1 : decode cX4_mostAlike 1 = .ok (.istore_n 3, 1) := by decide +kernel
theorem dX4_mostAlike_2 : decode cX4_mostAlike 2 = .ok (.iload_n 1, 1) := by decide +kernel
theorem dX4_mostAlike_3 : decode cX4_mostAlike 3 = .ok (.iconst 1, 1) := by decide +kernel
theorem dX4_mostAlike_4 : decode cX4_mostAlike 4 = .ok (.iadd, 1) := by decide +kernel
theorem dX4_mostAlike_5 : decode cX4_mostAlike 5 = .ok (.istore 4, 2) := by decide +kernel
theorem dX4_mostAlike_7 : decode cX4_mostAlike 7 = .ok (.iload 4, 2) := by decide +kernel
theorem dX4_mostAlike_9 : decode cX4_mostAlike 9 = .ok (.iload_n 2, 1) := by decide +kernel
theorem dX4_mostAlike_10 : decode cX4_mostAlike 10 = .ok (.if_icmp .ge 32, 3) := by decide +kernel
theorem dX4_mostAlike_13 : decode cX4_mostAlike 13 = .ok (.aload_n 0, 1) := by decide +kernel
theorem dX4_mostAlike_14 : decode cX4_mostAlike 14 = .ok (.iload_n 1, 1) := by decide +kernel
theorem dX4_mostAlike_15 : decode cX4_mostAlike 15 = .ok (.iconst 1, 1) := by decide +kernel
theorem dX4_mostAlike_16 : decode cX4_mostAlike 16 = .ok (.isub, 1) := by decide +kernel
theorem dX4_mostAlike_17 : decode cX4_mostAlike 17 = .ok (.iload 4, 2) := by decide +kernel
theorem dX4_mostAlike_19 : decode cX4_mostAlike 19 = .ok (.invokevirtual 55, 3) := by decide +kernel
theorem dX4_mostAlike_22 : decode cX4_mostAlike 22 = .ok (.aload_n 0, 1) := by decide +kernel
theorem dX4_mostAlike_23 : decode cX4_mostAlike 23 = .ok (.iload_n 1, 1) := by decide +kernel
theorem dX4_mostAlike_24 : decode cX4_mostAlike 24 = .ok (.iconst 1, 1) := by decide +kernel
theorem dX4_mostAlike_25 : decode cX4_mostAlike 25 = .ok (.isub, 1) := by decide +kernel
theorem dX4_mostAlike_26 : decode cX4_mostAlike 26 = .ok (.iload_n 3, 1) := by decide +kernel
theorem dX4_mostAlike_27 : decode cX4_mostAlike 27 = .ok (.invokevirtual 55, 3) := by decide +kernel
theorem dX4_mostAlike_30 : decode cX4_mostAlike 30 = .ok (.if_icmp .ge 6, 3) := by decide +kernel
theorem dX4_mostAlike_33 : decode cX4_mostAlike 33 = .ok (.iload 4, 2) := by decide +kernel
theorem dX4_mostAlike_35 : decode cX4_mostAlike 35 = .ok (.istore_n 3, 1) := by decide +kernel
theorem dX4_mostAlike_36 : decode cX4_mostAlike 36 = .ok (.iinc 4 1, 3) := by decide +kernel
theorem dX4_mostAlike_39 : decode cX4_mostAlike 39 = .ok (.goto (-32), 3) := by decide +kernel
theorem dX4_mostAlike_42 : decode cX4_mostAlike 42 = .ok (.iload_n 3, 1) := by decide +kernel
theorem dX4_mostAlike_43 : decode cX4_mostAlike 43 = .ok (.ireturn, 1) := by decide +kernel
theorem dX4_carryOut_0 : decode cX4_carryOut 0 = .ok (.iconst 0, 1) := by decide +kernel
theorem dX4_carryOut_1 : decode cX4_carryOut 1 = .ok (.istore_n 2, 1) := by decide +kernel
theorem dX4_carryOut_2 : decode cX4_carryOut 2 = .ok (.iload_n 2, 1) := by decide +kernel
theorem dX4_carryOut_3 : decode cX4_carryOut 3 = .ok (.aload_n 1, 1) := by decide +kernel
theorem dX4_carryOut_4 : decode cX4_carryOut 4 = .ok (.getfield 104, 3) := by decide +kernel
theorem dX4_carryOut_7 : decode cX4_carryOut 7 = .ok (.if_icmp .ge 70, 3) := by decide +kernel
theorem dX4_carryOut_10 : decode cX4_carryOut 10 = .ok (.iload_n 2, 1) := by decide +kernel
theorem dX4_carryOut_11 : decode cX4_carryOut 11 = .ok (.bipush 16, 2) := by decide +kernel
theorem dX4_carryOut_13 : decode cX4_carryOut 13 = .ok (.imul, 1) := by decide +kernel
theorem dX4_carryOut_14 : decode cX4_carryOut 14 = .ok (.istore_n 3, 1) := by decide +kernel
theorem dX4_carryOut_15 : decode cX4_carryOut 15 = .ok (.iconst 0, 1) := by decide +kernel
theorem dX4_carryOut_16 : decode cX4_carryOut 16 = .ok (.istore 4, 2) := by decide +kernel
theorem dX4_carryOut_18 : decode cX4_carryOut 18 = .ok (.iload 4, 2) := by decide +kernel
theorem dX4_carryOut_20 : decode cX4_carryOut 20 = .ok (.aload_n 0, 1) := by decide +kernel
theorem dX4_carryOut_21 : decode cX4_carryOut 21 = .ok (.getfield 37, 3) := by decide +kernel
theorem dX4_carryOut_24 : decode cX4_carryOut 24 = .ok (.if_icmp .ge 30, 3) := by decide +kernel
theorem dX4_carryOut_27 : decode cX4_carryOut 27 = .ok (.aload_n 0, 1) := by decide +kernel
theorem dX4_carryOut_28 : decode cX4_carryOut 28 = .ok (.getfield 24, 3) := by decide +kernel
theorem dX4_carryOut_31 : decode cX4_carryOut 31 = .ok (.iload 4, 2) := by decide +kernel
theorem dX4_carryOut_33 : decode cX4_carryOut 33 = .ok (.aload_n 1, 1) := by decide +kernel
theorem dX4_carryOut_34 : decode cX4_carryOut 34 = .ok (.getfield 106, 3) := by decide +kernel
theorem dX4_carryOut_37 : decode cX4_carryOut 37 = .ok (.iload_n 3, 1) := by decide +kernel
theorem dX4_carryOut_38 : decode cX4_carryOut 38 = .ok (.aload_n 0, 1) := by decide +kernel
theorem dX4_carryOut_39 : decode cX4_carryOut 39 = .ok (.getfield 9, 3) := by decide +kernel
theorem dX4_carryOut_42 : decode cX4_carryOut 42 = .ok (.iload 4, 2) := by decide +kernel
theorem dX4_carryOut_44 : decode cX4_carryOut 44 = .ok (.iaload, 1) := by decide +kernel
theorem dX4_carryOut_45 : decode cX4_carryOut 45 = .ok (.iadd, 1) := by decide +kernel
theorem dX4_carryOut_46 : decode cX4_carryOut 46 = .ok (.laload, 1) := by decide +kernel
theorem dX4_carryOut_47 : decode cX4_carryOut 47 = .ok (.lastore, 1) := by decide +kernel
theorem dX4_carryOut_48 : decode cX4_carryOut 48 = .ok (.iinc 4 1, 3) := by decide +kernel
theorem dX4_carryOut_51 : decode cX4_carryOut 51 = .ok (.goto (-33), 3) := by decide +kernel
theorem dX4_carryOut_54 : decode cX4_carryOut 54 = .ok (.aload_n 0, 1) := by decide +kernel
theorem dX4_carryOut_55 : decode cX4_carryOut 55 = .ok (.getfield 24, 3) := by decide +kernel
theorem dX4_carryOut_58 : decode cX4_carryOut 58 = .ok (.iconst 0, 1) := by decide +kernel
theorem dX4_carryOut_59 : decode cX4_carryOut 59 = .ok (.aload_n 1, 1) := by decide +kernel
theorem dX4_carryOut_60 : decode cX4_carryOut 60 = .ok (.getfield 106, 3) := by decide +kernel
theorem dX4_carryOut_63 : decode cX4_carryOut 63 = .ok (.iload_n 3, 1) := by decide +kernel
theorem dX4_carryOut_64 : decode cX4_carryOut 64 = .ok (.aload_n 0, 1) := by decide +kernel
theorem dX4_carryOut_65 : decode cX4_carryOut 65 = .ok (.getfield 37, 3) := by decide +kernel
theorem dX4_carryOut_68 : decode cX4_carryOut 68 = .ok (.invokestatic 91, 3) := by decide +kernel
theorem dX4_carryOut_71 : decode cX4_carryOut 71 = .ok (.iinc 2 1, 3) := by decide +kernel
theorem dX4_carryOut_74 : decode cX4_carryOut 74 = .ok (.goto (-72), 3) := by decide +kernel
theorem dX4_carryOut_77 : decode cX4_carryOut 77 = .ok (.iconst 0, 1) := by decide +kernel
theorem dX4_carryOut_78 : decode cX4_carryOut 78 = .ok (.istore_n 2, 1) := by decide +kernel
theorem dX4_carryOut_79 : decode cX4_carryOut 79 = .ok (.iconst 0, 1) := by decide +kernel
theorem dX4_carryOut_80 : decode cX4_carryOut 80 = .ok (.istore_n 3, 1) := by decide +kernel
theorem dX4_carryOut_81 : decode cX4_carryOut 81 = .ok (.iload_n 3, 1) := by decide +kernel
theorem dX4_carryOut_82 : decode cX4_carryOut 82 = .ok (.aload_n 0, 1) := by decide +kernel
theorem dX4_carryOut_83 : decode cX4_carryOut 83 = .ok (.getfield 37, 3) := by decide +kernel
theorem dX4_carryOut_86 : decode cX4_carryOut 86 = .ok (.if_icmp .ge 39, 3) := by decide +kernel
theorem dX4_carryOut_89 : decode cX4_carryOut 89 = .ok (.aload_n 0, 1) := by decide +kernel
theorem dX4_carryOut_90 : decode cX4_carryOut 90 = .ok (.getfield 21, 3) := by decide +kernel
theorem dX4_carryOut_93 : decode cX4_carryOut 93 = .ok (.iload_n 3, 1) := by decide +kernel
theorem dX4_carryOut_94 : decode cX4_carryOut 94 = .ok (.aload_n 1, 1) := by decide +kernel
theorem dX4_carryOut_95 : decode cX4_carryOut 95 = .ok (.getfield 58, 3) := by decide +kernel
theorem dX4_carryOut_98 : decode cX4_carryOut 98 = .ok (.aload_n 0, 1) := by decide +kernel
theorem dX4_carryOut_99 : decode cX4_carryOut 99 = .ok (.getfield 9, 3) := by decide +kernel
theorem dX4_carryOut_102 : decode cX4_carryOut 102 = .ok (.iload_n 3, 1) := by decide +kernel
theorem dX4_carryOut_103 : decode cX4_carryOut 103 = .ok (.iaload, 1) := by decide +kernel
theorem dX4_carryOut_104 : decode cX4_carryOut 104 = .ok (.iaload, 1) := by decide +kernel
theorem dX4_carryOut_105 : decode cX4_carryOut 105 = .ok (.iastore, 1) := by decide +kernel
theorem dX4_carryOut_106 : decode cX4_carryOut 106 = .ok (.aload_n 0, 1) := by decide +kernel
theorem dX4_carryOut_107 : decode cX4_carryOut 107 = .ok (.getfield 9, 3) := by decide +kernel
theorem dX4_carryOut_110 : decode cX4_carryOut 110 = .ok (.iload_n 3, 1) := by decide +kernel
theorem dX4_carryOut_111 : decode cX4_carryOut 111 = .ok (.iaload, 1) := by decide +kernel
theorem dX4_carryOut_112 : decode cX4_carryOut 112 = .ok (.iload_n 3, 1) := by decide +kernel
theorem dX4_carryOut_113 : decode cX4_carryOut 113 = .ok (.if_icmp .eq 6, 3) := by decide +kernel
theorem dX4_carryOut_116 : decode cX4_carryOut 116 = .ok (.iinc 2 1, 3) := by decide +kernel
theorem dX4_carryOut_119 : decode cX4_carryOut 119 = .ok (.iinc 3 1, 3) := by decide +kernel
theorem dX4_carryOut_122 : decode cX4_carryOut 122 = .ok (.goto (-41), 3) := by decide +kernel
theorem dX4_carryOut_125 : decode cX4_carryOut 125 = .ok (.aload_n 0, 1) := by decide +kernel
theorem dX4_carryOut_126 : decode cX4_carryOut 126 = .ok (.getfield 21, 3) := by decide +kernel
theorem dX4_carryOut_129 : decode cX4_carryOut 129 = .ok (.iconst 0, 1) := by decide +kernel
theorem dX4_carryOut_130 : decode cX4_carryOut 130 = .ok (.aload_n 1, 1) := by decide +kernel
theorem dX4_carryOut_131 : decode cX4_carryOut 131 = .ok (.getfield 58, 3) := by decide +kernel
theorem dX4_carryOut_134 : decode cX4_carryOut 134 = .ok (.iconst 0, 1) := by decide +kernel
theorem dX4_carryOut_135 : decode cX4_carryOut 135 = .ok (.aload_n 0, 1) := by decide +kernel
theorem dX4_carryOut_136 : decode cX4_carryOut 136 = .ok (.getfield 37, 3) := by decide +kernel
theorem dX4_carryOut_139 : decode cX4_carryOut 139 = .ok (.invokestatic 91, 3) := by decide +kernel
theorem dX4_carryOut_142 : decode cX4_carryOut 142 = .ok (.iload_n 2, 1) := by decide +kernel
theorem dX4_carryOut_143 : decode cX4_carryOut 143 = .ok (.ireturn, 1) := by decide +kernel
