theorem dX10_day_39 : decode cX10_day 39 = .ok (.goto (-28), 3) := by decide +kernel
theorem dX10_day_42 : decode cX10_day 42 = .ok (.aload_n 0, 1) := by decide +kernel
theorem dX10_day_43 : decode cX10_day 43 = .ok (.invokevirtual 145, 3) := by decide +kernel
theorem dX10_day_46 : decode cX10_day 46 = .ok (.ifCond .ne 10, 3) := by decide +kernel
theorem dX10_day_49 : decode cX10_day 49 = .ok (.iconst (-1), 1) := by decide +kernel
theorem dX10_day_50 : decode cX10_day 50 = .ok (.aload_n 0, 1) := by decide +kernel
theorem dX10_day_51 : decode cX10_day 51 = .ok (.getfield 106, 3) := by decide +kernel
theorem dX10_day_54 : decode cX10_day 54 = .ok (.isub, 1) := by decide +kernel
theorem dX10_day_55 : decode cX10_day 55 = .ok (.ireturn, 1) := by decide +kernel
theorem dX10_day_56 : decode cX10_day 56 = .ok (.aload_n 0, 1) := by decide +kernel
theorem dX10_day_57 : decode cX10_day 57 = .ok (.invokevirtual 224, 3) := by decide +kernel
theorem dX10_day_60 : decode cX10_day 60 = .ok (.iconst 0, 1) := by decide +kernel
theorem dX10_day_61 : decode cX10_day 61 = .ok (.istore_n 2, 1) := by decide +kernel
theorem dX10_day_62 : decode cX10_day 62 = .ok (.iload_n 2, 1) := by decide +kernel
theorem dX10_day_63 : decode cX10_day 63 = .ok (.iload_n 1, 1) := by decide +kernel
theorem dX10_day_64 : decode cX10_day 64 = .ok (.if_icmp .ge 19, 3) := by decide +kernel
theorem dX10_day_67 : decode cX10_day 67 = .ok (.aload_n 0, 1) := by decide +kernel
theorem dX10_day_68 : decode cX10_day 68 = .ok (.iconst 5, 1) := by decide +kernel
theorem dX10_day_69 : decode cX10_day 69 = .ok (.iload_n 2, 1) := by decide +kernel
theorem dX10_day_70 : decode cX10_day 70 = .ok (.imul, 1) := by decide +kernel
theorem dX10_day_71 : decode cX10_day 71 = .ok (.invokevirtual 355, 3) := by decide +kernel
theorem dX10_day_74 : decode cX10_day 74 = .ok (.ifCond .eq 9, 3) := by decide +kernel
theorem dX10_day_77 : decode cX10_day 77 = .ok (.iinc 2 1, 3) := by decide +kernel
theorem dX10_day_80 : decode cX10_day 80 = .ok (.goto (-18), 3) := by decide +kernel
theorem dX10_day_83 : decode cX10_day 83 = .ok (.iload_n 2, 1) := by decide +kernel
theorem dX10_day_84 : decode cX10_day 84 = .ok (.ifCond .le 7, 3) := by decide +kernel
theorem dX10_day_87 : decode cX10_day 87 = .ok (.aload_n 0, 1) := by decide +kernel
theorem dX10_day_88 : decode cX10_day 88 = .ok (.invokevirtual 227, 3) := by decide +kernel
theorem dX10_day_91 : decode cX10_day 91 = .ok (.aload_n 0, 1) := by decide +kernel
theorem dX10_day_92 : decode cX10_day 92 = .ok (.invokevirtual 288, 3) := by decide +kernel
theorem dX10_day_95 : decode cX10_day 95 = .ok (.istore_n 3, 1) := by decide +kernel
theorem dX10_day_96 : decode cX10_day 96 = .ok (.aload_n 0, 1) := by decide +kernel
theorem dX10_day_97 : decode cX10_day 97 = .ok (.iconst 0, 1) := by decide +kernel
theorem dX10_day_98 : decode cX10_day 98 = .ok (.putfield 71, 3) := by decide +kernel
theorem dX10_day_101 : decode cX10_day 101 = .ok (.aload_n 0, 1) := by decide +kernel
theorem dX10_day_102 : decode cX10_day 102 = .ok (.iload_n 2, 1) := by decide +kernel
theorem dX10_day_103 : decode cX10_day 103 = .ok (.iload_n 1, 1) := by decide +kernel
theorem dX10_day_104 : decode cX10_day 104 = .ok (.if_icmp .ge 7, 3) := by decide +kernel
theorem dX10_day_107 : decode cX10_day 107 = .ok (.lconst 1, 1) := by decide +kernel
theorem dX10_day_108 : decode cX10_day 108 = .ok (.goto 4, 3) := by decide +kernel
theorem dX10_day_111 : decode cX10_day 111 = .ok (.lconst 0, 1) := by decide +kernel
theorem dX10_day_112 : decode cX10_day 112 = .ok (.invokevirtual 237, 3) := by decide +kernel
theorem dX10_day_115 : decode cX10_day 115 = .ok (.aload_n 0, 1) := by decide +kernel
theorem dX10_day_116 : decode cX10_day 116 = .ok (.iload_n 3, 1) := by decide +kernel
theorem dX10_day_117 : decode cX10_day 117 = .ok (.i2l, 1) := by decide +kernel
theorem dX10_day_118 : decode cX10_day 118 = .ok (.invokevirtual 237, 3) := by decide +kernel
theorem dX10_day_121 : decode cX10_day 121 = .ok (.iload_n 2, 1) := by decide +kernel
theorem dX10_day_122 : decode cX10_day 122 = .ok (.ireturn, 1) := by decide +kernel
theorem dX10_lay_0 : decode cX10_lay 0 = .ok (.iconst 0, 1) := by decide +kernel
theorem dX10_lay_1 : decode cX10_lay 1 = .ok (.istore_n 1, 1) := by decide +kernel
theorem dX10_lay_2 : decode cX10_lay 2 = .ok (.iload_n 1, 1) := by decide +kernel
theorem dX10_lay_3 : decode cX10_lay 3 = .ok (.bipush 120, 2) := by decide +kernel
theorem dX10_lay_5 : decode cX10_lay 5 = .ok (.if_icmp .ge 21, 3) := by decide +kernel
theorem dX10_lay_8 : decode cX10_lay 8 = .ok (.aload_n 0, 1) := by decide +kernel
theorem dX10_lay_9 : decode cX10_lay 9 = .ok (.getfield 53, 3) := by decide +kernel
theorem dX10_lay_12 : decode cX10_lay 12 = .ok (.iload_n 1, 1) := by decide +kernel
theorem dX10_lay_13 : decode cX10_lay 13 = .ok (.aload_n 0, 1) := by decide +kernel
theorem dX10_lay_14 : decode cX10_lay 14 = .ok (.getfield 11, 3) := by decide +kernel
theorem dX10_lay_17 : decode cX10_lay 17 = .ok (.iload_n 1, 1) := by decide +kernel
theorem dX10_lay_18 : decode cX10_lay 18 = .ok (.laload, 1) := by decide +kernel
theorem dX10_lay_19 : decode cX10_lay 19 = .ok (.lastore, 1) := by decide +kernel
theorem dX10_lay_20 : decode cX10_lay 20 = .ok (.iinc 1 1, 3) := by decide +kernel
theorem dX10_lay_23 : decode cX10_lay 23 = .ok (.goto (-21), 3) := by decide +kernel
theorem dX10_lay_26 : decode cX10_lay 26 = .ok (.return_, 1) := by decide +kernel
theorem dX10_note_0 : decode cX10_note 0 = .ok (.aload_n 0, 1) := by decide +kernel
theorem dX10_note_1 : decode cX10_note 1 = .ok (.getfield 358, 3) := by decide +kernel
theorem dX10_note_4 : decode cX10_note 4 = .ok (.bipush 8, 2) := by decide +kernel
theorem dX10_note_6 : decode cX10_note 6 = .ok (.if_icmp .ne 43, 3) := by decide +kernel
theorem dX10_note_9 : decode cX10_note 9 = .ok (.iconst 0, 1) := by decide +kernel
theorem dX10_note_10 : decode cX10_note 10 = .ok (.istore_n 1, 1) := by decide +kernel
theorem dX10_note_11 : decode cX10_note 11 = .ok (.iload_n 1, 1) := by decide +kernel
theorem dX10_note_12 : decode cX10_note 12 = .ok (.sipush 840, 3) := by decide +kernel
theorem dX10_note_15 : decode cX10_note 15 = .ok (.if_icmp .ge 24, 3) := by decide +kernel
theorem dX10_note_18 : decode cX10_note 18 = .ok (.aload_n 0, 1) := by decide +kernel
theorem dX10_note_19 : decode cX10_note 19 = .ok (.getfield 50, 3) := by decide +kernel
theorem dX10_note_22 : decode cX10_note 22 = .ok (.iload_n 1, 1) := by decide +kernel
theorem dX10_note_23 : decode cX10_note 23 = .ok (.aload_n 0, 1) := by decide +kernel
theorem dX10_note_24 : decode cX10_note 24 = .ok (.getfield 50, 3) := by decide +kernel
theorem dX10_note_27 : decode cX10_note 27 = .ok (.iload_n 1, 1) := by decide +kernel
theorem dX10_note_28 : decode cX10_note 28 = .ok (.bipush 120, 2) := by decide +kernel
theorem dX10_note_30 : decode cX10_note 30 = .ok (.iadd, 1) := by decide +kernel
theorem dX10_note_31 : decode cX10_note 31 = .ok (.laload, 1) := by decide +kernel
theorem dX10_note_32 : decode cX10_note 32 = .ok (.lastore, 1) := by decide +kernel
theorem dX10_note_33 : decode cX10_note 33 = .ok (.iinc 1 1, 3) := by decide +kernel
theorem dX10_note_36 : decode cX10_note 36 = .ok (.goto (-25), 3) := by decide +kernel
theorem dX10_note_39 : decode cX10_note 39 = .ok (.aload_n 0, 1) := by decide +kernel
theorem dX10_note_40 : decode cX10_note 40 = .ok (.dup, 1) := by decide +kernel
theorem dX10_note_41 : decode cX10_note 41 = .ok (.getfield 358, 3) := by decide +kernel
theorem dX10_note_44 : decode cX10_note 44 = .ok (.iconst 1, 1) := by decide +kernel
theorem dX10_note_45 : decode cX10_note 45 = .ok (.isub, 1) := by decide +kernel
theorem dX10_note_46 : decode cX10_note 46 = .ok (.putfield 358, 3) := by decide +kernel
theorem dX10_note_49 : decode cX10_note 49 = .ok (.iconst 0, 1) := by decide +kernel
theorem dX10_note_50 : decode cX10_note 50 = .ok (.istore_n 1, 1) := by decide +kernel
theorem dX10_note_51 : decode cX10_note 51 = .ok (.iload_n 1, 1) := by decide +kernel
theorem dX10_note_52 : decode cX10_note 52 = .ok (.bipush 120, 2) := by decide +kernel
theorem dX10_note_54 : decode cX10_note 54 = .ok (.if_icmp .ge 29, 3) := by decide +kernel
theorem dX10_note_57 : decode cX10_note 57 = .ok (.aload_n 0, 1) := by decide +kernel
theorem dX10_note_58 : decode cX10_note 58 = .ok (.getfield 50, 3) := by decide +kernel
theorem dX10_note_61 : decode cX10_note 61 = .ok (.bipush 120, 2) := by decide +kernel
theorem dX10_note_63 : decode cX10_note 63 = .ok (.aload_n 0, 1) := by decide +kernel
theorem dX10_note_64 : decode cX10_note 64 = .ok (.getfield 358, 3) := by decide +kernel
theorem dX10_note_67 : decode cX10_note 67 = .ok (.imul, 1) := by decide +kernel
theorem dX10_note_68 : decode cX10_note 68 = .ok (.iload_n 1, 1) := by decide +kernel
theorem dX10_note_69 : decode cX10_note 69 = .ok (.iadd, 1) := by decide +kernel
theorem dX10_note_70 : decode cX10_note 70 = .ok (.aload_n 0, 1) := by decide +kernel
theorem dX10_note_71 : decode cX10_note 71 = .ok (.getfield 53, 3) := by decide +kernel
theorem dX10_note_74 : decode cX10_note 74 = .ok (.iload_n 1, 1) := by decide +kernel
theorem dX10_note_75 : decode cX10_note 75 = .ok (.laload, 1) := by decide +kernel
theorem dX10_note_76 : decode cX10_note 76 = .ok (.lastore, 1) := by decide +kernel
theorem dX10_note_77 : decode cX10_note 77 = .ok (.iinc 1 1, 3) := by decide +kernel
theorem dX10_note_80 : decode cX10_note 80 = .ok (.goto (-29), 3) := by decide +kernel
theorem dX10_note_83 : decode cX10_note 83 = .ok (.aload_n 0, 1) := by decide +kernel
theorem dX10_note_84 : decode cX10_note 84 = .ok (.dup, 1) := by decide +kernel
theorem dX10_note_85 : decode cX10_note 85 = .ok (.getfield 358, 3) := by decide +kernel
theorem dX10_note_88 : decode cX10_note 88 = .ok (.iconst 1, 1) := by decide +kernel
theorem dX10_note_89 : decode cX10_note 89 = .ok (.iadd, 1) := by decide +kernel
theorem dX10_note_90 : decode cX10_note 90 = .ok (.putfield 358, 3) := by decide +kernel
theorem dX10_note_93 : decode cX10_note 93 = .ok (.return_, 1) := by decide +kernel
set_option maxRecDepth 20000 in
theorem ggX10_change_X10_lay : GoodIn wsX10_change wsX10_lay := goodIn_r _ [5, 6, 7, 14, 15, 16, 17, 18, 19, 20, 21, 22, 23, 24, 25, 26, 27, 28, 29, 30, 31, 32, 33, 34, 35, 36, 37, 38, 39] (by decide +kernel) (by decide +kernel)
set_option maxRecDepth 20000 in
theorem gX10_change_X10_lay : GoodIn wsX10_change (wsV RX10 224 RX10 yX10_lay wsX10_lay) := goodIn_app (goodIn_of _ (by decide +kernel)) ggX10_change_X10_lay
set_option maxRecDepth 20000 in
theorem ggX10_change_X10_note : GoodIn wsX10_change wsX10_note := goodIn_r _ [11, 12, 13, 6, 14, 15, 16, 17, 18, 19, 20, 21, 22, 23, 24, 25, 26, 27, 28, 29, 30, 31, 32, 33, 34, 35, 36, 37, 38, 39] (by decide +kernel) (by decide +kernel)
set_option maxRecDepth 20000 in
theorem gX10_change_X10_note : GoodIn wsX10_change (wsV RX10 227 RX10 yX10_note wsX10_note) := goodIn_app (goodIn_of _ (by decide +kernel)) ggX10_change_X10_note
theorem dX10_change_0 : decode cX10_change 0 = .ok (.aload_n 0, 1) := by decide +kernel
theorem dX10_change_1 : decode cX10_change 1 = .ok (.invokevirtual 224, 3) := by decide +kernel
theorem dX10_change_4 : decode cX10_change 4 = .ok (.aload_n 0, 1) := by decide +kernel
theorem dX10_change_5 : decode cX10_change 5 = .ok (.invokevirtual 227, 3) := by decide +kernel
theorem dX10_change_8 : decode cX10_change 8 = .ok (.return_, 1) := by decide +kernel
theorem dX10_undo_0 : decode cX10_undo 0 = .ok (.aload_n 0, 1) := by decide +kernel
theorem dX10_undo_1 : decode cX10_undo 1 = .ok (.iconst 0, 1) := by decide +kernel
theorem dX10_undo_2 : decode cX10_undo 2 = .ok (.putfield 67, 3) := by decide +kernel
theorem dX10_undo_5 : decode cX10_undo 5 = .ok (.aload_n 0, 1) := by decide +kernel
theorem dX10_undo_6 : decode cX10_undo 6 = .ok (.getfield 358, 3) := by decide +kernel
theorem dX10_undo_9 : decode cX10_undo 9 = .ok (.ifCond .ne 5, 3) := by decide +kernel
theorem dX10_undo_12 : decode cX10_undo 12 = .ok (.iconst (-1), 1) := by decide +kernel
theorem dX10_undo_13 : decode cX10_undo 13 = .ok (.ireturn, 1) := by decide +kernel
theorem dX10_undo_14 : decode cX10_undo 14 = .ok (.aload_n 0, 1) := by decide +kernel
theorem dX10_undo_15 : decode cX10_undo 15 = .ok (.dup, 1) := by decide +kernel
theorem dX10_undo_16 : decode cX10_undo 16 = .ok (.getfield 358, 3) := by decide +kernel
theorem dX10_undo_19 : decode cX10_undo 19 = .ok (.iconst 1, 1) := by decide +kernel
theorem dX10_undo_20 : decode cX10_undo 20 = .ok (.isub, 1) := by decide +kernel
theorem dX10_undo_21 : decode cX10_undo 21 = .ok (.putfield 358, 3) := by decide +kernel
theorem dX10_undo_24 : decode cX10_undo 24 = .ok (.iconst 0, 1) := by decide +kernel
theorem dX10_undo_25 : decode cX10_undo 25 = .ok (.istore_n 1, 1) := by decide +kernel
theorem dX10_undo_26 : decode cX10_undo 26 = .ok (.iload_n 1, 1) := by decide +kernel
theorem dX10_undo_27 : decode cX10_undo 27 = .ok (.bipush 120, 2) := by decide +kernel
theorem dX10_undo_29 : decode cX10_undo 29 = .ok (.if_icmp .ge 29, 3) := by decide +kernel
theorem dX10_undo_32 : decode cX10_undo 32 = .ok (.aload_n 0, 1) := by decide +kernel
theorem dX10_undo_33 : decode cX10_undo 33 = .ok (.getfield 11, 3) := by decide +kernel
theorem dX10_undo_36 : decode cX10_undo 36 = .ok (.iload_n 1, 1) := by decide +kernel
theorem dX10_undo_37 : decode cX10_undo 37 = .ok (.aload_n 0, 1) := by decide +kernel
theorem dX10_undo_38 : decode cX10_undo 38 = .ok (.getfield 50, 3) := by decide +kernel
theorem dX10_undo_41 : decode cX10_undo 41 = .ok (.bipush 120, 2) := by decide +kernel
theorem dX10_undo_43 : decode cX10_undo 43 = .ok (.aload_n 0, 1) := by decide +kernel
theorem dX10_undo_44 : decode cX10_undo 44 = .ok (.getfield 358, 3) := by decide +kernel
theorem dX10_undo_47 : decode cX10_undo 47 = .ok (.imul, 1) := by decide +kernel
theorem dX10_undo_48 : decode cX10_undo 48 = .ok (.iload_n 1, 1) := by decide +kernel
theorem dX10_undo_49 : decode cX10_undo 49 = .ok (.iadd, 1) := by decide +kernel
theorem dX10_undo_50 : decode cX10_undo 50 = .ok (.laload, 1) := by decide +kernel
theorem dX10_undo_51 : decode cX10_undo 51 = .ok (.lastore, 1) := by decide +kernel
theorem dX10_undo_52 : decode cX10_undo 52 = .ok (.iinc 1 1, 3) := by decide +kernel
theorem dX10_undo_55 : decode cX10_undo 55 = .ok (.goto (-29), 3) := by decide +kernel
theorem dX10_undo_58 : decode cX10_undo 58 = .ok (.aload_n 0, 1) := by decide +kernel
theorem dX10_undo_59 : decode cX10_undo 59 = .ok (.getfield 358, 3) := by decide +kernel
theorem dX10_undo_62 : decode cX10_undo 62 = .ok (.ireturn, 1) := by decide +kernel
theorem dX10_draw_0 : decode cX10_draw 0 = .ok (.aload_n 0, 1) := by decide +kernel
theorem dX10_draw_1 : decode cX10_draw 1 = .ok (.aload_n 0, 1) := by decide +kernel
theorem dX10_draw_2 : decode cX10_draw 2 = .ok (.getfield 361, 3) := by decide +kernel
theorem dX10_draw_5 : decode cX10_draw 5 = .ok (.ldc_w 364, 3) := by decide +kernel
theorem dX10_draw_8 : decode cX10_draw 8 = .ok (.imul, 1) := by decide +kernel
theorem dX10_draw_9 : decode cX10_draw 9 = .ok (.sipush 12345, 3) := by decide +kernel
theorem dX10_draw_12 : decode cX10_draw 12 = .ok (.iadd, 1) := by decide +kernel
theorem dX10_draw_13 : decode cX10_draw 13 = .ok (.putfield 361, 3) := by decide +kernel
theorem dX10_draw_16 : decode cX10_draw 16 = .ok (.aload_n 0, 1) := by decide +kernel
theorem dX10_draw_17 : decode cX10_draw 17 = .ok (.getfield 361, 3) := by decide +kernel
theorem dX10_draw_20 : decode cX10_draw 20 = .ok (.bipush 16, 2) := by decide +kernel
theorem dX10_draw_22 : decode cX10_draw 22 = .ok (.iushr, 1) := by decide +kernel
theorem dX10_draw_23 : decode cX10_draw 23 = .ok (.iload_n 1, 1) := by decide +kernel
theorem dX10_draw_24 : decode cX10_draw 24 = .ok (.irem, 1) := by decide +kernel
theorem dX10_draw_25 : decode cX10_draw 25 = .ok (.ireturn, 1) := by decide +kernel
set_option maxRecDepth 20000 in
theorem ggX10_years_X10_in : GoodIn wsX10_years wsX10_in := goodIn_r _ [7] (by decide +kernel) (by decide +kernel)
set_option maxRecDepth 20000 in
theorem gX10_years_X10_in : GoodIn wsX10_years (va_wsS RX10 78 yX10_in wsX10_in) := goodIn_app (goodIn_of _ (by decide +kernel)) ggX10_years_X10_in
set_option maxRecDepth 20000 in
theorem ggX10_years_X10_rows : GoodIn wsX10_years wsX10_rows := goodIn_r _ [11, 12, 113, 114, 115, 116, 117, 118, 119, 120, 121, 122, 123, 124, 125, 126, 127, 128, 129, 130, 131, 132, 133, 134, 135, 136, 137, 138] (by decide +kernel) (by decide +kernel)
set_option maxRecDepth 20000 in
theorem gX10_years_X10_rows : GoodIn wsX10_years (wsV RX10 82 RX10 yX10_rows wsX10_rows) := goodIn_app (goodIn_of _ (by decide +kernel)) ggX10_years_X10_rows
set_option maxRecDepth 20000 in
theorem ggX10_years_X10_layLine : GoodIn wsX10_years wsX10_layLine := goodIn_r _ [16, 17, 8, 9, 10, 6, 11, 12, 18, 19, 20, 21, 22, 23, 24, 25, 26, 27, 28, 29, 30, 31, 32, 33, 34, 35, 36, 37, 4, 5, 7, 38, 39, 40, 41, 42, 43, 44, 45, 46, 47, 48, 49, 50, 51, 52, 53, 54, 55, 56, 57, 58, 59, 60, 61, 62, 63, 64, 65, 66, 67, 68, 69, 70, 71, 72, 73, 113, 114, 115, 116, 117, 118, 119, 120, 121, 122, 123, 124, 125, 126, 127, 128, 129, 130, 131, 132, 133, 134, 135, 136, 137, 138] (by decide +kernel) (by decide +kernel)
set_option maxRecDepth 20000 in
theorem gX10_years_X10_layLine : GoodIn wsX10_years (wsV RX10 282 RX10 yX10_layLine wsX10_layLine) := goodIn_app (goodIn_of _ (by decide +kernel)) ggX10_years_X10_layLine
set_option maxRecDepth 20000 in
theorem ggX10_years_X10_draw : GoodIn wsX10_years wsX10_draw := goodIn_r _ [77, 2, 78, 113, 114, 115, 116, 117, 118, 119, 120, 121, 122, 123, 124, 125, 126, 127, 128, 129, 130, 131, 132, 133, 134, 135, 136, 137, 138] (by decide +kernel) (by decide +kernel)
set_option maxRecDepth 20000 in
theorem gX10_years_X10_draw : GoodIn wsX10_years (wsV RX10 365 RX10 yX10_draw wsX10_draw) := goodIn_app (goodIn_of _ (by decide +kernel)) ggX10_years_X10_draw
set_option maxRecDepth 20000 in
theorem ggX10_years_X10_swapInLine : GoodIn wsX10_years wsX10_swapInLine := goodIn_r _ [82, 17, 113, 114, 115, 116, 117, 118, 119, 120, 121, 122, 123, 124, 125, 126, 127, 128, 129, 130, 131, 132, 133, 134, 135, 136, 137, 138] (by decide +kernel) (by decide +kernel)
set_option maxRecDepth 20000 in
theorem gX10_years_X10_swapInLine : GoodIn wsX10_years (wsV RX10 337 RX10 yX10_swapInLine wsX10_swapInLine) := goodIn_app (goodIn_of _ (by decide +kernel)) ggX10_years_X10_swapInLine
set_option maxRecDepth 20000 in
theorem ggX10_years_X10_runsOfLine : GoodIn wsX10_years wsX10_runsOfLine := goodIn_r _ [86, 22, 23, 87, 88, 89, 6, 90, 25, 17, 8, 9, 10, 11, 12, 113, 114, 115, 116, 117, 118, 119, 120, 121, 122, 123, 124, 125, 126, 127, 128, 129, 130, 131, 132, 133, 134, 135, 136, 137, 138] (by decide +kernel) (by decide +kernel)
set_option maxRecDepth 20000 in
theorem gX10_years_X10_runsOfLine : GoodIn wsX10_years (wsV RX10 285 RX10 yX10_runsOfLine wsX10_runsOfLine) := goodIn_app (goodIn_of _ (by decide +kernel)) ggX10_years_X10_runsOfLine
set_option maxRecDepth 20000 in
theorem ggX10_years_X10_tourAll : GoodIn wsX10_years wsX10_tourAll := goodIn_r _ [94, 95, 96, 97, 98, 8, 9, 10, 6, 11, 12, 99, 100, 101, 102, 103, 17, 83, 84, 85, 86, 22, 23, 87, 88, 89, 90, 25, 104, 105, 106, 107, 113, 114, 115, 116, 117, 118, 119, 120, 121, 122, 123, 124, 125, 126, 127, 128, 129, 130, 131, 132, 133, 134, 135, 136, 137, 138] (by decide +kernel) (by decide +kernel)
set_option maxRecDepth 20000 in
theorem gX10_years_X10_tourAll : GoodIn wsX10_years (wsV RX10 331 RX10 yX10_tourAll wsX10_tourAll) := goodIn_app (goodIn_of _ (by decide +kernel)) ggX10_years_X10_tourAll
set_option maxRecDepth 20000 in
theorem ggX10_years_X10_tell : GoodIn wsX10_years wsX10_tell := goodIn_r _ [111, 112, 3, 113, 114, 115, 116, 117, 118, 119, 120, 121, 122, 123, 124, 125, 126, 127, 128, 129, 130, 131, 132, 133, 134, 135, 136, 137, 138] (by decide +kernel) (by decide +kernel)
set_option maxRecDepth 20000 in
theorem gX10_years_X10_tell : GoodIn wsX10_years (wsV RX10 237 RX10 yX10_tell wsX10_tell) := goodIn_app (goodIn_of _ (by decide +kernel)) ggX10_years_X10_tell
theorem dX10_years_0 : decode cX10_years 0 = .ok (.aload_n 0, 1) := by decide +kernel
theorem dX10_years_1 : decode cX10_years 1 = .ok (.iconst 0, 1) := by decide +kernel
theorem dX10_years_2 : decode cX10_years 2 = .ok (.putfield 67, 3) := by decide +kernel
theorem dX10_years_5 : decode cX10_years 5 = .ok (.iload_n 2, 1) := by decide +kernel
theorem dX10_years_6 : decode cX10_years 6 = .ok (.iconst 1, 1) := by decide +kernel
theorem dX10_years_7 : decode cX10_years 7 = .ok (.bipush 20, 2) := by decide +kernel
theorem dX10_years_9 : decode cX10_years 9 = .ok (.invokestatic 78, 3) := by decide +kernel
theorem dX10_years_12 : decode cX10_years 12 = .ok (.ifCond .eq 13, 3) := by decide +kernel
theorem dX10_years_15 : decode cX10_years 15 = .ok (.iload_n 3, 1) := by decide +kernel
theorem dX10_years_16 : decode cX10_years 16 = .ok (.iconst 2, 1) := by decide +kernel
theorem dX10_years_17 : decode cX10_years 17 = .ok (.bipush 16, 2) := by decide +kernel
theorem dX10_years_19 : decode cX10_years 19 = .ok (.invokestatic 78, 3) := by decide +kernel
theorem dX10_years_22 : decode cX10_years 22 = .ok (.ifCond .ne 5, 3) := by decide +kernel
theorem dX10_years_25 : decode cX10_years 25 = .ok (.iconst (-1), 1) := by decide +kernel
theorem dX10_years_26 : decode cX10_years 26 = .ok (.ireturn, 1) := by decide +kernel
theorem dX10_years_27 : decode cX10_years 27 = .ok (.aload_n 0, 1) := by decide +kernel
theorem dX10_years_28 : decode cX10_years 28 = .ok (.invokevirtual 82, 3) := by decide +kernel
theorem dX10_years_31 : decode cX10_years 31 = .ok (.ifCond .ne 6, 3) := by decide +kernel
theorem dX10_years_34 : decode cX10_years 34 = .ok (.bipush (-2), 2) := by decide +kernel
theorem dX10_years_36 : decode cX10_years 36 = .ok (.ireturn, 1) := by decide +kernel
theorem dX10_years_37 : decode cX10_years 37 = .ok (.aload_n 0, 1) := by decide +kernel
theorem dX10_years_38 : decode cX10_years 38 = .ok (.iload_n 1, 1) := by decide +kernel
theorem dX10_years_39 : decode cX10_years 39 = .ok (.putfield 361, 3) := by decide +kernel
theorem dX10_years_42 : decode cX10_years 42 = .ok (.aload_n 0, 1) := by decide +kernel
theorem dX10_years_43 : decode cX10_years 43 = .ok (.invokevirtual 282, 3) := by decide +kernel
theorem dX10_years_46 : decode cX10_years 46 = .ok (.iconst 0, 1) := by decide +kernel
theorem dX10_years_47 : decode cX10_years 47 = .ok (.istore 4, 2) := by decide +kernel
theorem dX10_years_49 : decode cX10_years 49 = .ok (.iload 4, 2) := by decide +kernel
theorem dX10_years_51 : decode cX10_years 51 = .ok (.iload_n 2, 1) := by decide +kernel
theorem dX10_years_52 : decode cX10_years 52 = .ok (.if_icmp .ge 37, 3) := by decide +kernel
theorem dX10_years_55 : decode cX10_years 55 = .ok (.aload_n 0, 1) := by decide +kernel
theorem dX10_years_56 : decode cX10_years 56 = .ok (.aload_n 0, 1) := by decide +kernel
theorem dX10_years_57 : decode cX10_years 57 = .ok (.invokevirtual 82, 3) := by decide +kernel
theorem dX10_years_60 : decode cX10_years 60 = .ok (.invokevirtual 365, 3) := by decide +kernel
theorem dX10_years_63 : decode cX10_years 63 = .ok (.istore 5, 2) := by decide +kernel
theorem dX10_years_65 : decode cX10_years 65 = .ok (.aload_n 0, 1) := by decide +kernel
theorem dX10_years_66 : decode cX10_years 66 = .ok (.aload_n 0, 1) := by decide +kernel
theorem dX10_years_67 : decode cX10_years 67 = .ok (.invokevirtual 82, 3) := by decide +kernel
theorem dX10_years_70 : decode cX10_years 70 = .ok (.invokevirtual 365, 3) := by decide +kernel
theorem dX10_years_73 : decode cX10_years 73 = .ok (.istore 6, 2) := by decide +kernel
theorem dX10_years_75 : decode cX10_years 75 = .ok (.aload_n 0, 1) := by decide +kernel
theorem dX10_years_76 : decode cX10_years 76 = .ok (.iload 5, 2) := by decide +kernel
theorem dX10_years_78 : decode cX10_years 78 = .ok (.iload 6, 2) := by decide +kernel
theorem dX10_years_80 : decode cX10_years 80 = .ok (.invokevirtual 337, 3) := by decide +kernel
theorem dX10_years_83 : decode cX10_years 83 = .ok (.iinc 4 1, 3) := by decide +kernel
theorem dX10_years_86 : decode cX10_years 86 = .ok (.goto (-37), 3) := by decide +kernel
theorem dX10_years_89 : decode cX10_years 89 = .ok (.aload_n 0, 1) := by decide +kernel
theorem dX10_years_90 : decode cX10_years 90 = .ok (.invokevirtual 285, 3) := by decide +kernel
theorem dX10_years_93 : decode cX10_years 93 = .ok (.istore 4, 2) := by decide +kernel
theorem dX10_years_95 : decode cX10_years 95 = .ok (.aload_n 0, 1) := by decide +kernel
theorem dX10_years_96 : decode cX10_years 96 = .ok (.iload_n 3, 1) := by decide +kernel
theorem dX10_years_97 : decode cX10_years 97 = .ok (.invokevirtual 331, 3) := by decide +kernel
theorem dX10_years_100 : decode cX10_years 100 = .ok (.istore 5, 2) := by decide +kernel
theorem dX10_years_102 : decode cX10_years 102 = .ok (.aload_n 0, 1) := by decide +kernel
theorem dX10_years_103 : decode cX10_years 103 = .ok (.iconst 0, 1) := by decide +kernel
theorem dX10_years_104 : decode cX10_years 104 = .ok (.putfield 71, 3) := by decide +kernel
theorem dX10_years_107 : decode cX10_years 107 = .ok (.aload_n 0, 1) := by decide +kernel
theorem dX10_years_108 : decode cX10_years 108 = .ok (.iload 4, 2) := by decide +kernel
theorem dX10_years_110 : decode cX10_years 110 = .ok (.i2l, 1) := by decide +kernel
theorem dX10_years_111 : decode cX10_years 111 = .ok (.invokevirtual 237, 3) := by decide +kernel
theorem dX10_years_114 : decode cX10_years 114 = .ok (.aload_n 0, 1) := by decide +kernel
theorem dX10_years_115 : decode cX10_years 115 = .ok (.iload 5, 2) := by decide +kernel
theorem dX10_years_117 : decode cX10_years 117 = .ok (.i2l, 1) := by decide +kernel
theorem dX10_years_118 : decode cX10_years 118 = .ok (.invokevirtual 237, 3) := by decide +kernel
theorem dX10_years_121 : decode cX10_years 121 = .ok (.aload_n 0, 1) := by decide +kernel
theorem dX10_years_122 : decode cX10_years 122 = .ok (.invokevirtual 285, 3) := by decide +kernel
theorem dX10_years_125 : decode cX10_years 125 = .ok (.ireturn, 1) := by decide +kernel
set_option maxRecDepth 20000 in
theorem ggX10_keep_X10_in : GoodIn wsX10_keep wsX10_in := goodIn_r _ [8] (by decide +kernel) (by decide +kernel)
set_option maxRecDepth 20000 in
theorem gX10_keep_X10_in : GoodIn wsX10_keep (va_wsS RX10 78 yX10_in wsX10_in) := goodIn_app (goodIn_of _ (by decide +kernel)) ggX10_keep_X10_in
theorem dX10_keep_0 : decode cX10_keep 0 = .ok (.aload_n 0, 1) := by decide +kernel
theorem dX10_keep_1 : decode cX10_keep 1 = .ok (.iconst 0, 1) := by decide +kernel
theorem dX10_keep_2 : decode cX10_keep 2 = .ok (.putfield 67, 3) := by decide +kernel
theorem dX10_keep_5 : decode cX10_keep 5 = .ok (.iload_n 1, 1) := by decide +kernel
theorem dX10_keep_6 : decode cX10_keep 6 = .ok (.iconst 0, 1) := by decide +kernel
theorem dX10_keep_7 : decode cX10_keep 7 = .ok (.iconst 1, 1) := by decide +kernel
theorem dX10_keep_8 : decode cX10_keep 8 = .ok (.invokestatic 78, 3) := by decide +kernel
theorem dX10_keep_11 : decode cX10_keep 11 = .ok (.ifCond .ne 5, 3) := by decide +kernel
theorem dX10_keep_14 : decode cX10_keep 14 = .ok (.iconst 0, 1) := by decide +kernel
theorem dX10_keep_15 : decode cX10_keep 15 = .ok (.ireturn, 1) := by decide +kernel
theorem dX10_keep_16 : decode cX10_keep 16 = .ok (.aload_n 0, 1) := by decide +kernel
theorem dX10_keep_17 : decode cX10_keep 17 = .ok (.getfield 59, 3) := by decide +kernel
theorem dX10_keep_20 : decode cX10_keep 20 = .ok (.iload_n 1, 1) := by decide +kernel
theorem dX10_keep_21 : decode cX10_keep 21 = .ok (.iconst 1, 1) := by decide +kernel
theorem dX10_keep_22 : decode cX10_keep 22 = .ok (.bastore, 1) := by decide +kernel
theorem dX10_keep_23 : decode cX10_keep 23 = .ok (.iconst 0, 1) := by decide +kernel
theorem dX10_keep_24 : decode cX10_keep 24 = .ok (.istore_n 2, 1) := by decide +kernel
theorem dX10_keep_25 : decode cX10_keep 25 = .ok (.iload_n 2, 1) := by decide +kernel
theorem dX10_keep_26 : decode cX10_keep 26 = .ok (.bipush 120, 2) := by decide +kernel
theorem dX10_keep_28 : decode cX10_keep 28 = .ok (.if_icmp .ge 26, 3) := by decide +kernel
theorem dX10_keep_31 : decode cX10_keep 31 = .ok (.aload_n 0, 1) := by decide +kernel
theorem dX10_keep_32 : decode cX10_keep 32 = .ok (.getfield 56, 3) := by decide +kernel
theorem dX10_keep_35 : decode cX10_keep 35 = .ok (.bipush 120, 2) := by decide +kernel
theorem dX10_keep_37 : decode cX10_keep 37 = .ok (.iload_n 1, 1) := by decide +kernel
theorem dX10_keep_38 : decode cX10_keep 38 = .ok (.imul, 1) := by decide +kernel
theorem dX10_keep_39 : decode cX10_keep 39 = .ok (.iload_n 2, 1) := by decide +kernel
theorem dX10_keep_40 : decode cX10_keep 40 = .ok (.iadd, 1) := by decide +kernel
theorem dX10_keep_41 : decode cX10_keep 41 = .ok (.aload_n 0, 1) := by decide +kernel
theorem dX10_keep_42 : decode cX10_keep 42 = .ok (.getfield 11, 3) := by decide +kernel
theorem dX10_keep_45 : decode cX10_keep 45 = .ok (.iload_n 2, 1) := by decide +kernel
theorem dX10_keep_46 : decode cX10_keep 46 = .ok (.laload, 1) := by decide +kernel
theorem dX10_keep_47 : decode cX10_keep 47 = .ok (.lastore, 1) := by decide +kernel
theorem dX10_keep_48 : decode cX10_keep 48 = .ok (.iinc 2 1, 3) := by decide +kernel
theorem dX10_keep_51 : decode cX10_keep 51 = .ok (.goto (-26), 3) := by decide +kernel
theorem dX10_keep_54 : decode cX10_keep 54 = .ok (.iconst 1, 1) := by decide +kernel
theorem dX10_keep_55 : decode cX10_keep 55 = .ok (.ireturn, 1) := by decide +kernel
set_option maxRecDepth 20000 in
theorem ggX10_again_X10_in : GoodIn wsX10_again wsX10_in := goodIn_r _ [9] (by decide +kernel) (by decide +kernel)
set_option maxRecDepth 20000 in
theorem gX10_again_X10_in : GoodIn wsX10_again (va_wsS RX10 78 yX10_in wsX10_in) := goodIn_app (goodIn_of _ (by decide +kernel)) ggX10_again_X10_in
theorem dX10_again_0 : decode cX10_again 0 = .ok (.aload_n 0, 1) := by decide +kernel
theorem dX10_again_1 : decode cX10_again 1 = .ok (.iconst 0, 1) := by decide +kernel
theorem dX10_again_2 : decode cX10_again 2 = .ok (.putfield 67, 3) := by decide +kernel
theorem dX10_again_5 : decode cX10_again 5 = .ok (.iload_n 1, 1) := by decide +kernel
theorem dX10_again_6 : decode cX10_again 6 = .ok (.iconst 0, 1) := by decide +kernel
theorem dX10_again_7 : decode cX10_again 7 = .ok (.iconst 1, 1) := by decide +kernel
theorem dX10_again_8 : decode cX10_again 8 = .ok (.invokestatic 78, 3) := by decide +kernel
theorem dX10_again_11 : decode cX10_again 11 = .ok (.ifCond .eq 12, 3) := by decide +kernel
theorem dX10_again_14 : decode cX10_again 14 = .ok (.aload_n 0, 1) := by decide +kernel
theorem dX10_again_15 : decode cX10_again 15 = .ok (.getfield 59, 3) := by decide +kernel
theorem dX10_again_18 : decode cX10_again 18 = .ok (.iload_n 1, 1) := by decide +kernel
theorem dX10_again_19 : decode cX10_again 19 = .ok (.baload, 1) := by decide +kernel
theorem dX10_again_20 : decode cX10_again 20 = .ok (.ifCond .ne 5, 3) := by decide +kernel
theorem dX10_again_23 : decode cX10_again 23 = .ok (.iconst 0, 1) := by decide +kernel
theorem dX10_again_24 : decode cX10_again 24 = .ok (.ireturn, 1) := by decide +kernel
theorem dX10_again_25 : decode cX10_again 25 = .ok (.iconst 0, 1) := by decide +kernel
theorem dX10_again_26 : decode cX10_again 26 = .ok (.istore_n 2, 1) := by decide +kernel
theorem dX10_again_27 : decode cX10_again 27 = .ok (.iload_n 2, 1) := by decide +kernel
theorem dX10_again_28 : decode cX10_again 28 = .ok (.bipush 120, 2) := by decide +kernel
theorem dX10_again_30 : decode cX10_again 30 = .ok (.if_icmp .ge 26, 3) := by decide +kernel
theorem dX10_again_33 : decode cX10_again 33 = .ok (.aload_n 0, 1) := by decide +kernel
theorem dX10_again_34 : decode cX10_again 34 = .ok (.getfield 11, 3) := by decide +kernel
theorem dX10_again_37 : decode cX10_again 37 = .ok (.iload_n 2, 1) := by decide +kernel
theorem dX10_again_38 : decode cX10_again 38 = .ok (.aload_n 0, 1) := by decide +kernel
theorem dX10_again_39 : decode cX10_again 39 = .ok (.getfield 56, 3) := by decide +kernel
theorem dX10_again_42 : decode cX10_again 42 = .ok (.bipush 120, 2) := by decide +kernel
theorem dX10_again_44 : decode cX10_again 44 = .ok (.iload_n 1, 1) := by decide +kernel
theorem dX10_again_45 : decode cX10_again 45 = .ok (.imul, 1) := by decide +kernel
theorem dX10_again_46 : decode cX10_again 46 = .ok (.iload_n 2, 1) := by decide +kernel
theorem dX10_again_47 : decode cX10_again 47 = .ok (.iadd, 1) := by decide +kernel
theorem dX10_again_48 : decode cX10_again 48 = .ok (.laload, 1) := by decide +kernel
theorem dX10_again_49 : decode cX10_again 49 = .ok (.lastore, 1) := by decide +kernel
theorem dX10_again_50 : decode cX10_again 50 = .ok (.iinc 2 1, 3) := by decide +kernel
theorem dX10_again_53 : decode cX10_again 53 = .ok (.goto (-26), 3) := by decide +kernel
theorem dX10_again_56 : decode cX10_again 56 = .ok (.aload_n 0, 1) := by decide +kernel
theorem dX10_again_57 : decode cX10_again 57 = .ok (.iconst 0, 1) := by decide +kernel
theorem dX10_again_58 : decode cX10_again 58 = .ok (.putfield 358, 3) := by decide +kernel
theorem dX10_again_61 : decode cX10_again 61 = .ok (.iconst 1, 1) := by decide +kernel
theorem dX10_again_62 : decode cX10_again 62 = .ok (.ireturn, 1) := by decide +kernel
set_option maxRecDepth 20000 in
theorem ggX10_nothings_X10_columns : GoodIn wsX10_nothings wsX10_columns := goodIn_r _ [6, 7, 26, 27, 28, 29, 30, 31, 32, 33, 34, 35, 36, 37, 38, 39, 40, 41, 42, 43, 44, 45, 46, 47, 48, 49, 50, 51] (by decide +kernel) (by decide +kernel)
set_option maxRecDepth 20000 in
theorem gX10_nothings_X10_columns : GoodIn wsX10_nothings (wsV RX10 74 RX10 yX10_columns wsX10_columns) := goodIn_app (goodIn_of _ (by decide +kernel)) ggX10_nothings_X10_columns
set_option maxRecDepth 20000 in
theorem ggX10_nothings_X10_rows : GoodIn wsX10_nothings wsX10_rows := goodIn_r _ [11, 7, 26, 27, 28, 29, 30, 31, 32, 33, 34, 35, 36, 37, 38, 39, 40, 41, 42, 43, 44, 45, 46, 47, 48, 49, 50, 51] (by decide +kernel) (by decide +kernel)
set_option maxRecDepth 20000 in
theorem gX10_nothings_X10_rows : GoodIn wsX10_nothings (wsV RX10 82 RX10 yX10_rows wsX10_rows) := goodIn_app (goodIn_of _ (by decide +kernel)) ggX10_nothings_X10_rows
set_option maxRecDepth 20000 in
theorem ggX10_nothings_X10_kindOf : GoodIn wsX10_nothings wsX10_kindOf := goodIn_r _ [15, 7, 26, 27, 28, 29, 30, 31, 32, 33, 34, 35, 36, 37, 38, 39, 40, 41, 42, 43, 44, 45, 46, 47, 48, 49, 50, 51] (by decide +kernel) (by decide +kernel)
set_option maxRecDepth 20000 in
theorem gX10_nothings_X10_kindOf : GoodIn wsX10_nothings (wsV RX10 89 RX10 yX10_kindOf wsX10_kindOf) := goodIn_app (goodIn_of _ (by decide +kernel)) ggX10_nothings_X10_kindOf
set_option maxRecDepth 20000 in
theorem ggX10_nothings_X10_in : GoodIn wsX10_nothings wsX10_in := goodIn_r _ [18] (by decide +kernel) (by decide +kernel)
set_option maxRecDepth 20000 in
theorem gX10_nothings_X10_in : GoodIn wsX10_nothings (va_wsS RX10 78 yX10_in wsX10_in) := goodIn_app (goodIn_of _ (by decide +kernel)) ggX10_nothings_X10_in
set_option maxRecDepth 20000 in
theorem ggX10_nothings_X10_cell : GoodIn wsX10_nothings wsX10_cell := goodIn_r _ [22, 7, 23, 24, 5, 25, 26, 27, 28, 29, 30, 31, 32, 33, 34, 35, 36, 37, 38, 39, 40, 41, 42, 43, 44, 45, 46, 47, 48, 49, 50, 51] (by decide +kernel) (by decide +kernel)
set_option maxRecDepth 20000 in
theorem gX10_nothings_X10_cell : GoodIn wsX10_nothings (wsV RX10 234 RX10 yX10_cell wsX10_cell) := goodIn_app (goodIn_of _ (by decide +kernel)) ggX10_nothings_X10_cell
theorem dX10_nothings_0 : decode cX10_nothings 0 = .ok (.iconst 0, 1) := by decide +kernel
theorem dX10_nothings_1 : decode cX10_nothings 1 = .ok (.istore_n 1, 1) := by decide +kernel
theorem dX10_nothings_2 : decode cX10_nothings 2 = .ok (.iconst 0, 1) := by decide +kernel
theorem dX10_nothings_3 : decode cX10_nothings 3 = .ok (.istore_n 2, 1) := by decide +kernel
theorem dX10_nothings_4 : decode cX10_nothings 4 = .ok (.iload_n 2, 1) := by decide +kernel
theorem dX10_nothings_5 : decode cX10_nothings 5 = .ok (.aload_n 0, 1) := by decide +kernel
theorem dX10_nothings_6 : decode cX10_nothings 6 = .ok (.invokevirtual 74, 3) := by decide +kernel
theorem dX10_nothings_9 : decode cX10_nothings 9 = .ok (.if_icmp .ge 61, 3) := by decide +kernel
theorem dX10_nothings_12 : decode cX10_nothings 12 = .ok (.iconst 0, 1) := by decide +kernel
theorem dX10_nothings_13 : decode cX10_nothings 13 = .ok (.istore_n 3, 1) := by decide +kernel
theorem dX10_nothings_14 : decode cX10_nothings 14 = .ok (.iload_n 3, 1) := by decide +kernel
theorem dX10_nothings_15 : decode cX10_nothings 15 = .ok (.aload_n 0, 1) := by decide +kernel
theorem dX10_nothings_16 : decode cX10_nothings 16 = .ok (.invokevirtual 82, 3) := by decide +kernel
theorem dX10_nothings_19 : decode cX10_nothings 19 = .ok (.if_icmp .ge 45, 3) := by decide +kernel
theorem dX10_nothings_22 : decode cX10_nothings 22 = .ok (.aload_n 0, 1) := by decide +kernel
theorem dX10_nothings_23 : decode cX10_nothings 23 = .ok (.iload_n 2, 1) := by decide +kernel
theorem dX10_nothings_24 : decode cX10_nothings 24 = .ok (.invokevirtual 89, 3) := by decide +kernel
theorem dX10_nothings_27 : decode cX10_nothings 27 = .ok (.bipush 8, 2) := by decide +kernel
theorem dX10_nothings_29 : decode cX10_nothings 29 = .ok (.bipush 10, 2) := by decide +kernel
theorem dX10_nothings_31 : decode cX10_nothings 31 = .ok (.invokestatic 78, 3) := by decide +kernel
theorem dX10_nothings_34 : decode cX10_nothings 34 = .ok (.ifCond .eq 30, 3) := by decide +kernel
theorem dX10_nothings_37 : decode cX10_nothings 37 = .ok (.iload_n 1, 1) := by decide +kernel
theorem dX10_nothings_38 : decode cX10_nothings 38 = .ok (.aload_n 0, 1) := by decide +kernel
theorem dX10_nothings_39 : decode cX10_nothings 39 = .ok (.iload_n 2, 1) := by decide +kernel
theorem dX10_nothings_40 : decode cX10_nothings 40 = .ok (.iload_n 3, 1) := by decide +kernel
theorem dX10_nothings_41 : decode cX10_nothings 41 = .ok (.invokevirtual 234, 3) := by decide +kernel
theorem dX10_nothings_44 : decode cX10_nothings 44 = .ok (.ldc2_w 124, 3) := by decide +kernel
theorem dX10_nothings_47 : decode cX10_nothings 47 = .ok (.lcmp, 1) := by decide +kernel
theorem dX10_nothings_48 : decode cX10_nothings 48 = .ok (.ifCond .ne 7, 3) := by decide +kernel
theorem dX10_nothings_51 : decode cX10_nothings 51 = .ok (.iconst 1, 1) := by decide +kernel
theorem dX10_nothings_52 : decode cX10_nothings 52 = .ok (.goto 4, 3) := by decide +kernel
theorem dX10_nothings_55 : decode cX10_nothings 55 = .ok (.iconst 0, 1) := by decide +kernel
theorem dX10_nothings_56 : decode cX10_nothings 56 = .ok (.iadd, 1) := by decide +kernel
theorem dX10_nothings_57 : decode cX10_nothings 57 = .ok (.istore_n 1, 1) := by decide +kernel
theorem dX10_nothings_58 : decode cX10_nothings 58 = .ok (.iinc 3 1, 3) := by decide +kernel
theorem dX10_nothings_61 : decode cX10_nothings 61 = .ok (.goto (-47), 3) := by decide +kernel
theorem dX10_nothings_64 : decode cX10_nothings 64 = .ok (.iinc 2 1, 3) := by decide +kernel
theorem dX10_nothings_67 : decode cX10_nothings 67 = .ok (.goto (-63), 3) := by decide +kernel
theorem dX10_nothings_70 : decode cX10_nothings 70 = .ok (.iload_n 1, 1) := by decide +kernel
theorem dX10_nothings_71 : decode cX10_nothings 71 = .ok (.ireturn, 1) := by decide +kernel
set_option maxRecDepth 20000 in
theorem ggX10_count_X10_columns : GoodIn wsX10_count wsX10_columns := goodIn_r _ [9, 10, 46, 47, 48, 49, 50, 51, 52, 53, 54, 55, 56, 57, 58, 59, 60, 61, 62, 63, 64, 65, 66, 67, 68, 69, 70, 71] (by decide +kernel) (by decide +kernel)
set_option maxRecDepth 20000 in
theorem gX10_count_X10_columns : GoodIn wsX10_count (wsV RX10 74 RX10 yX10_columns wsX10_columns) := goodIn_app (goodIn_of _ (by decide +kernel)) ggX10_count_X10_columns
set_option maxRecDepth 20000 in
theorem ggX10_count_X10_rows : GoodIn wsX10_count wsX10_rows := goodIn_r _ [14, 10, 46, 47, 48, 49, 50, 51, 52, 53, 54, 55, 56, 57, 58, 59, 60, 61, 62, 63, 64, 65, 66, 67, 68, 69, 70, 71] (by decide +kernel) (by decide +kernel)
set_option maxRecDepth 20000 in
theorem gX10_count_X10_rows : GoodIn wsX10_count (wsV RX10 82 RX10 yX10_rows wsX10_rows) := goodIn_app (goodIn_of _ (by decide +kernel)) ggX10_count_X10_rows
set_option maxRecDepth 20000 in
theorem ggX10_count_X10_properBits : GoodIn wsX10_count wsX10_properBits := goodIn_r _ [18, 5, 6, 7, 8, 9, 10, 19, 20, 21, 22, 23, 24, 25, 26, 27, 28, 29, 30, 31, 32, 33, 46, 47, 48, 49, 50, 51, 52, 53, 54, 55, 56, 57, 58, 59, 60, 61, 62, 63, 64, 65, 66, 67, 68, 69, 70, 71] (by decide +kernel) (by decide +kernel)
set_option maxRecDepth 20000 in
theorem gX10_count_X10_properBits : GoodIn wsX10_count (wsV RX10 291 RX10 yX10_properBits wsX10_properBits) := goodIn_app (goodIn_of _ (by decide +kernel)) ggX10_count_X10_properBits
set_option maxRecDepth 20000 in
theorem ggX10_count_X10_nothings : GoodIn wsX10_count wsX10_nothings := goodIn_r _ [37, 38, 5, 6, 7, 8, 9, 10, 11, 12, 13, 14, 30, 31, 32, 33, 27, 28, 29, 39, 40, 41, 42, 43, 44, 45, 46, 47, 48, 49, 50, 51, 52, 53, 54, 55, 56, 57, 58, 59, 60, 61, 62, 63, 64, 65, 66, 67, 68, 69, 70, 71] (by decide +kernel) (by decide +kernel)
set_option maxRecDepth 20000 in
theorem gX10_count_X10_nothings : GoodIn wsX10_count (wsV RX10 368 RX10 yX10_nothings wsX10_nothings) := goodIn_app (goodIn_of _ (by decide +kernel)) ggX10_count_X10_nothings
theorem dX10_count_0 : decode cX10_count 0 = .ok (.aload_n 0, 1) := by decide +kernel
theorem dX10_count_1 : decode cX10_count 1 = .ok (.iconst 0, 1) := by decide +kernel
theorem dX10_count_2 : decode cX10_count 2 = .ok (.putfield 67, 3) := by decide +kernel
theorem dX10_count_5 : decode cX10_count 5 = .ok (.iload_n 1, 1) := by decide +kernel
theorem dX10_count_6 : decode cX10_count 6 = .ok (.tableswitch 77 0 6 #[42, 47, 52, 57, 62, 67, 72], 42) := by decide +kernel
theorem dX10_count_48 : decode cX10_count 48 = .ok (.aload_n 0, 1) := by decide +kernel
theorem dX10_count_49 : decode cX10_count 49 = .ok (.invokevirtual 74, 3) := by decide +kernel
theorem dX10_count_52 : decode cX10_count 52 = .ok (.ireturn, 1) := by decide +kernel
theorem dX10_count_53 : decode cX10_count 53 = .ok (.aload_n 0, 1) := by decide +kernel
theorem dX10_count_54 : decode cX10_count 54 = .ok (.invokevirtual 82, 3) := by decide +kernel
theorem dX10_count_57 : decode cX10_count 57 = .ok (.ireturn, 1) := by decide +kernel
theorem dX10_count_58 : decode cX10_count 58 = .ok (.aload_n 0, 1) := by decide +kernel
theorem dX10_count_59 : decode cX10_count 59 = .ok (.invokevirtual 291, 3) := by decide +kernel
theorem dX10_count_62 : decode cX10_count 62 = .ok (.ireturn, 1) := by decide +kernel
theorem dX10_count_63 : decode cX10_count 63 = .ok (.aload_n 0, 1) := by decide +kernel
theorem dX10_count_64 : decode cX10_count 64 = .ok (.getfield 358, 3) := by decide +kernel
theorem dX10_count_67 : decode cX10_count 67 = .ok (.ireturn, 1) := by decide +kernel
theorem dX10_count_68 : decode cX10_count 68 = .ok (.aload_n 0, 1) := by decide +kernel
theorem dX10_count_69 : decode cX10_count 69 = .ok (.getfield 71, 3) := by decide +kernel
theorem dX10_count_72 : decode cX10_count 72 = .ok (.ireturn, 1) := by decide +kernel
theorem dX10_count_73 : decode cX10_count 73 = .ok (.aload_n 0, 1) := by decide +kernel
theorem dX10_count_74 : decode cX10_count 74 = .ok (.getfield 97, 3) := by decide +kernel
theorem dX10_count_77 : decode cX10_count 77 = .ok (.ireturn, 1) := by decide +kernel
theorem dX10_count_78 : decode cX10_count 78 = .ok (.aload_n 0, 1) := by decide +kernel
theorem dX10_count_79 : decode cX10_count 79 = .ok (.invokevirtual 368, 3) := by decide +kernel
theorem dX10_count_82 : decode cX10_count 82 = .ok (.ireturn, 1) := by decide +kernel
theorem dX10_count_83 : decode cX10_count 83 = .ok (.iconst (-1), 1) := by decide +kernel
theorem dX10_count_84 : decode cX10_count 84 = .ok (.ireturn, 1) := by decide +kernel
set_option maxRecDepth 20000 in
theorem ggX10_answer_X10_in : GoodIn wsX10_answer wsX10_in := goodIn_r _ [7] (by decide +kernel) (by decide +kernel)
set_option maxRecDepth 20000 in
theorem gX10_answer_X10_in : GoodIn wsX10_answer (va_wsS RX10 78 yX10_in wsX10_in) := goodIn_app (goodIn_of _ (by decide +kernel)) ggX10_answer_X10_in
set_option maxRecDepth 20000 in
theorem ggX10_answer_X10_lost : GoodIn wsX10_answer wsX10_lost := goodIn_r _ [11, 1, 12, 13, 14, 15, 16, 17, 18, 19, 20, 21, 22, 23, 24, 25, 26, 27, 28, 29, 30, 31, 32, 33, 34, 35, 36, 37] (by decide +kernel) (by decide +kernel)
set_option maxRecDepth 20000 in
theorem gX10_answer_X10_lost : GoodIn wsX10_answer (wsV RX10 371 RX10 yX10_lost wsX10_lost) := goodIn_app (goodIn_of _ (by decide +kernel)) ggX10_answer_X10_lost
theorem dX10_answer_0 : decode cX10_answer 0 = .ok (.aload_n 0, 1) := by decide +kernel
theorem dX10_answer_1 : decode cX10_answer 1 = .ok (.iconst 0, 1) := by decide +kernel
theorem dX10_answer_2 : decode cX10_answer 2 = .ok (.putfield 67, 3) := by decide +kernel
theorem dX10_answer_5 : decode cX10_answer 5 = .ok (.iload_n 1, 1) := by decide +kernel
theorem dX10_answer_6 : decode cX10_answer 6 = .ok (.iconst 0, 1) := by decide +kernel
theorem dX10_answer_7 : decode cX10_answer 7 = .ok (.aload_n 0, 1) := by decide +kernel
theorem dX10_answer_8 : decode cX10_answer 8 = .ok (.getfield 71, 3) := by decide +kernel
theorem dX10_answer_11 : decode cX10_answer 11 = .ok (.iconst 1, 1) := by decide +kernel
theorem dX10_answer_12 : decode cX10_answer 12 = .ok (.isub, 1) := by decide +kernel
theorem dX10_answer_13 : decode cX10_answer 13 = .ok (.invokestatic 78, 3) := by decide +kernel
theorem dX10_answer_16 : decode cX10_answer 16 = .ok (.ifCond .eq 12, 3) := by decide +kernel
theorem dX10_answer_19 : decode cX10_answer 19 = .ok (.aload_n 0, 1) := by decide +kernel
theorem dX10_answer_20 : decode cX10_answer 20 = .ok (.getfield 19, 3) := by decide +kernel
theorem dX10_answer_23 : decode cX10_answer 23 = .ok (.iload_n 1, 1) := by decide +kernel
theorem dX10_answer_24 : decode cX10_answer 24 = .ok (.laload, 1) := by decide +kernel
theorem dX10_answer_25 : decode cX10_answer 25 = .ok (.goto 8, 3) := by decide +kernel
theorem dX10_answer_28 : decode cX10_answer 28 = .ok (.aload_n 0, 1) := by decide +kernel
theorem dX10_answer_29 : decode cX10_answer 29 = .ok (.invokevirtual 371, 3) := by decide +kernel
theorem dX10_answer_32 : decode cX10_answer 32 = .ok (.i2l, 1) := by decide +kernel
theorem dX10_answer_33 : decode cX10_answer 33 = .ok (.lreturn, 1) := by decide +kernel
