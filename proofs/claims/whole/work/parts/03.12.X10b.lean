theorem dX10_worth_3 : decode cX10_worth 3 = .ok (.if_icmp .ne 12, 3) := by decide +kernel
theorem dX10_worth_6 : decode cX10_worth 6 = .ok (.lload_n 1, 1) := by decide +kernel
theorem dX10_worth_7 : decode cX10_worth 7 = .ok (.l2i, 1) := by decide +kernel
theorem dX10_worth_8 : decode cX10_worth 8 = .ok (.invokestatic 178, 3) := by decide +kernel
theorem dX10_worth_11 : decode cX10_worth 11 = .ok (.f2d, 1) := by decide +kernel
theorem dX10_worth_12 : decode cX10_worth 12 = .ok (.goto 18, 3) := by decide +kernel
theorem dX10_worth_15 : decode cX10_worth 15 = .ok (.iload_n 0, 1) := by decide +kernel
theorem dX10_worth_16 : decode cX10_worth 16 = .ok (.bipush 7, 2) := by decide +kernel
theorem dX10_worth_18 : decode cX10_worth 18 = .ok (.if_icmp .ne 10, 3) := by decide +kernel
theorem dX10_worth_21 : decode cX10_worth 21 = .ok (.lload_n 1, 1) := by decide +kernel
theorem dX10_worth_22 : decode cX10_worth 22 = .ok (.invokestatic 247, 3) := by decide +kernel
theorem dX10_worth_25 : decode cX10_worth 25 = .ok (.goto 5, 3) := by decide +kernel
theorem dX10_worth_28 : decode cX10_worth 28 = .ok (.lload_n 1, 1) := by decide +kernel
theorem dX10_worth_29 : decode cX10_worth 29 = .ok (.l2d, 1) := by decide +kernel
theorem dX10_worth_30 : decode cX10_worth 30 = .ok (.dreturn, 1) := by decide +kernel
set_option maxRecDepth 20000 in
theorem ggX10_areSame_X10_kindOf : GoodIn wsX10_areSame wsX10_kindOf := goodIn_r _ [6, 7, 29, 30, 31, 32, 33, 34, 35, 36, 37, 38, 39, 40, 41, 42, 43, 44, 45, 46, 47, 48, 49, 50, 51, 52, 53, 54] (by decide +kernel) (by decide +kernel)
set_option maxRecDepth 20000 in
theorem gX10_areSame_X10_kindOf : GoodIn wsX10_areSame (wsV RX10 89 RX10 yX10_kindOf wsX10_kindOf) := goodIn_app (goodIn_of _ (by decide +kernel)) ggX10_areSame_X10_kindOf
set_option maxRecDepth 20000 in
theorem ggX10_areSame_X10_cell : GoodIn wsX10_areSame wsX10_cell := goodIn_r _ [11, 7, 12, 13, 5, 14, 29, 30, 31, 32, 33, 34, 35, 36, 37, 38, 39, 40, 41, 42, 43, 44, 45, 46, 47, 48, 49, 50, 51, 52, 53, 54] (by decide +kernel) (by decide +kernel)
set_option maxRecDepth 20000 in
theorem gX10_areSame_X10_cell : GoodIn wsX10_areSame (wsV RX10 234 RX10 yX10_cell wsX10_cell) := goodIn_app (goodIn_of _ (by decide +kernel)) ggX10_areSame_X10_cell
set_option maxRecDepth 20000 in
theorem ggX10_areSame_X10_in : GoodIn wsX10_areSame wsX10_in := goodIn_r _ [17] (by decide +kernel) (by decide +kernel)
set_option maxRecDepth 20000 in
theorem gX10_areSame_X10_in : GoodIn wsX10_areSame (va_wsS RX10 78 yX10_in wsX10_in) := goodIn_app (goodIn_of _ (by decide +kernel)) ggX10_areSame_X10_in
set_option maxRecDepth 20000 in
theorem ggX10_areSame_X10_worth : GoodIn wsX10_areSame wsX10_worth := goodIn_r _ [20, 21, 22, 23, 24, 25, 26, 27, 28] (by decide +kernel) (by decide +kernel)
set_option maxRecDepth 20000 in
theorem gX10_areSame_X10_worth : GoodIn wsX10_areSame (va_wsS RX10 251 yX10_worth wsX10_worth) := goodIn_app (goodIn_of _ (by decide +kernel)) ggX10_areSame_X10_worth
theorem dX10_areSame_0 : decode cX10_areSame 0 = .ok (.aload_n 0, 1) := by decide +kernel
theorem dX10_areSame_1 : decode cX10_areSame 1 = .ok (.iload_n 1, 1) := by decide +kernel
theorem dX10_areSame_2 : decode cX10_areSame 2 = .ok (.invokevirtual 89, 3) := by decide +kernel
theorem dX10_areSame_5 : decode cX10_areSame 5 = .ok (.istore 4, 2) := by decide +kernel
theorem dX10_areSame_7 : decode cX10_areSame 7 = .ok (.aload_n 0, 1) := by decide +kernel
theorem dX10_areSame_8 : decode cX10_areSame 8 = .ok (.iload_n 2, 1) := by decide +kernel
theorem dX10_areSame_9 : decode cX10_areSame 9 = .ok (.invokevirtual 89, 3) := by decide +kernel
theorem dX10_areSame_12 : decode cX10_areSame 12 = .ok (.istore 5, 2) := by decide +kernel
theorem dX10_areSame_14 : decode cX10_areSame 14 = .ok (.aload_n 0, 1) := by decide +kernel
theorem dX10_areSame_15 : decode cX10_areSame 15 = .ok (.iload_n 1, 1) := by decide +kernel
theorem dX10_areSame_16 : decode cX10_areSame 16 = .ok (.iload_n 3, 1) := by decide +kernel
theorem dX10_areSame_17 : decode cX10_areSame 17 = .ok (.invokevirtual 234, 3) := by decide +kernel
theorem dX10_areSame_20 : decode cX10_areSame 20 = .ok (.lstore 6, 2) := by decide +kernel
theorem dX10_areSame_22 : decode cX10_areSame 22 = .ok (.aload_n 0, 1) := by decide +kernel
theorem dX10_areSame_23 : decode cX10_areSame 23 = .ok (.iload_n 2, 1) := by decide +kernel
theorem dX10_areSame_24 : decode cX10_areSame 24 = .ok (.iload_n 3, 1) := by decide +kernel
theorem dX10_areSame_25 : decode cX10_areSame 25 = .ok (.invokevirtual 234, 3) := by decide +kernel
theorem dX10_areSame_28 : decode cX10_areSame 28 = .ok (.lstore 8, 2) := by decide +kernel
theorem dX10_areSame_30 : decode cX10_areSame 30 = .ok (.iload 4, 2) := by decide +kernel
theorem dX10_areSame_32 : decode cX10_areSame 32 = .ok (.bipush 8, 2) := by decide +kernel
theorem dX10_areSame_34 : decode cX10_areSame 34 = .ok (.if_icmp .lt 16, 3) := by decide +kernel
theorem dX10_areSame_37 : decode cX10_areSame 37 = .ok (.lload 6, 2) := by decide +kernel
theorem dX10_areSame_39 : decode cX10_areSame 39 = .ok (.ldc2_w 124, 3) := by decide +kernel
theorem dX10_areSame_42 : decode cX10_areSame 42 = .ok (.lcmp, 1) := by decide +kernel
theorem dX10_areSame_43 : decode cX10_areSame 43 = .ok (.ifCond .ne 7, 3) := by decide +kernel
theorem dX10_areSame_46 : decode cX10_areSame 46 = .ok (.iconst 1, 1) := by decide +kernel
theorem dX10_areSame_47 : decode cX10_areSame 47 = .ok (.goto 4, 3) := by decide +kernel
theorem dX10_areSame_50 : decode cX10_areSame 50 = .ok (.iconst 0, 1) := by decide +kernel
theorem dX10_areSame_51 : decode cX10_areSame 51 = .ok (.istore 10, 2) := by decide +kernel
theorem dX10_areSame_53 : decode cX10_areSame 53 = .ok (.iload 5, 2) := by decide +kernel
theorem dX10_areSame_55 : decode cX10_areSame 55 = .ok (.bipush 8, 2) := by decide +kernel
theorem dX10_areSame_57 : decode cX10_areSame 57 = .ok (.if_icmp .lt 16, 3) := by decide +kernel
theorem dX10_areSame_60 : decode cX10_areSame 60 = .ok (.lload 8, 2) := by decide +kernel
theorem dX10_areSame_62 : decode cX10_areSame 62 = .ok (.ldc2_w 124, 3) := by decide +kernel
theorem dX10_areSame_65 : decode cX10_areSame 65 = .ok (.lcmp, 1) := by decide +kernel
theorem dX10_areSame_66 : decode cX10_areSame 66 = .ok (.ifCond .ne 7, 3) := by decide +kernel
theorem dX10_areSame_69 : decode cX10_areSame 69 = .ok (.iconst 1, 1) := by decide +kernel
theorem dX10_areSame_70 : decode cX10_areSame 70 = .ok (.goto 4, 3) := by decide +kernel
theorem dX10_areSame_73 : decode cX10_areSame 73 = .ok (.iconst 0, 1) := by decide +kernel
theorem dX10_areSame_74 : decode cX10_areSame 74 = .ok (.istore 11, 2) := by decide +kernel
theorem dX10_areSame_76 : decode cX10_areSame 76 = .ok (.iload 10, 2) := by decide +kernel
theorem dX10_areSame_78 : decode cX10_areSame 78 = .ok (.ifCond .ne 8, 3) := by decide +kernel
theorem dX10_areSame_81 : decode cX10_areSame 81 = .ok (.iload 11, 2) := by decide +kernel
theorem dX10_areSame_83 : decode cX10_areSame 83 = .ok (.ifCond .eq 19, 3) := by decide +kernel
theorem dX10_areSame_86 : decode cX10_areSame 86 = .ok (.iload 10, 2) := by decide +kernel
theorem dX10_areSame_88 : decode cX10_areSame 88 = .ok (.ifCond .eq 12, 3) := by decide +kernel
theorem dX10_areSame_91 : decode cX10_areSame 91 = .ok (.iload 11, 2) := by decide +kernel
theorem dX10_areSame_93 : decode cX10_areSame 93 = .ok (.ifCond .eq 7, 3) := by decide +kernel
theorem dX10_areSame_96 : decode cX10_areSame 96 = .ok (.iconst 1, 1) := by decide +kernel
theorem dX10_areSame_97 : decode cX10_areSame 97 = .ok (.goto 4, 3) := by decide +kernel
theorem dX10_areSame_100 : decode cX10_areSame 100 = .ok (.iconst 0, 1) := by decide +kernel
theorem dX10_areSame_101 : decode cX10_areSame 101 = .ok (.ireturn, 1) := by decide +kernel
theorem dX10_areSame_102 : decode cX10_areSame 102 = .ok (.iload 4, 2) := by decide +kernel
theorem dX10_areSame_104 : decode cX10_areSame 104 = .ok (.iconst 1, 1) := by decide +kernel
theorem dX10_areSame_105 : decode cX10_areSame 105 = .ok (.bipush 8, 2) := by decide +kernel
theorem dX10_areSame_107 : decode cX10_areSame 107 = .ok (.invokestatic 78, 3) := by decide +kernel
theorem dX10_areSame_110 : decode cX10_areSame 110 = .ok (.ifCond .eq 38, 3) := by decide +kernel
theorem dX10_areSame_113 : decode cX10_areSame 113 = .ok (.iload 5, 2) := by decide +kernel
theorem dX10_areSame_115 : decode cX10_areSame 115 = .ok (.iconst 1, 1) := by decide +kernel
theorem dX10_areSame_116 : decode cX10_areSame 116 = .ok (.bipush 8, 2) := by decide +kernel
theorem dX10_areSame_118 : decode cX10_areSame 118 = .ok (.invokestatic 78, 3) := by decide +kernel
theorem dX10_areSame_121 : decode cX10_areSame 121 = .ok (.ifCond .eq 27, 3) := by decide +kernel
theorem dX10_areSame_124 : decode cX10_areSame 124 = .ok (.iload 4, 2) := by decide +kernel
theorem dX10_areSame_126 : decode cX10_areSame 126 = .ok (.lload 6, 2) := by decide +kernel
theorem dX10_areSame_128 : decode cX10_areSame 128 = .ok (.invokestatic 251, 3) := by decide +kernel
theorem dX10_areSame_131 : decode cX10_areSame 131 = .ok (.iload 5, 2) := by decide +kernel
theorem dX10_areSame_133 : decode cX10_areSame 133 = .ok (.lload 8, 2) := by decide +kernel
theorem dX10_areSame_135 : decode cX10_areSame 135 = .ok (.invokestatic 251, 3) := by decide +kernel
theorem dX10_areSame_138 : decode cX10_areSame 138 = .ok (.dcmp .l, 1) := by decide +kernel
theorem dX10_areSame_139 : decode cX10_areSame 139 = .ok (.ifCond .ne 7, 3) := by decide +kernel
theorem dX10_areSame_142 : decode cX10_areSame 142 = .ok (.iconst 1, 1) := by decide +kernel
theorem dX10_areSame_143 : decode cX10_areSame 143 = .ok (.goto 4, 3) := by decide +kernel
theorem dX10_areSame_146 : decode cX10_areSame 146 = .ok (.iconst 0, 1) := by decide +kernel
theorem dX10_areSame_147 : decode cX10_areSame 147 = .ok (.ireturn, 1) := by decide +kernel
theorem dX10_areSame_148 : decode cX10_areSame 148 = .ok (.iload 4, 2) := by decide +kernel
theorem dX10_areSame_150 : decode cX10_areSame 150 = .ok (.iload 5, 2) := by decide +kernel
theorem dX10_areSame_152 : decode cX10_areSame 152 = .ok (.if_icmp .ne 15, 3) := by decide +kernel
theorem dX10_areSame_155 : decode cX10_areSame 155 = .ok (.lload 6, 2) := by decide +kernel
theorem dX10_areSame_157 : decode cX10_areSame 157 = .ok (.lload 8, 2) := by decide +kernel
theorem dX10_areSame_159 : decode cX10_areSame 159 = .ok (.lcmp, 1) := by decide +kernel
theorem dX10_areSame_160 : decode cX10_areSame 160 = .ok (.ifCond .ne 7, 3) := by decide +kernel
theorem dX10_areSame_163 : decode cX10_areSame 163 = .ok (.iconst 1, 1) := by decide +kernel
theorem dX10_areSame_164 : decode cX10_areSame 164 = .ok (.goto 4, 3) := by decide +kernel
theorem dX10_areSame_167 : decode cX10_areSame 167 = .ok (.iconst 0, 1) := by decide +kernel
theorem dX10_areSame_168 : decode cX10_areSame 168 = .ok (.ireturn, 1) := by decide +kernel
set_option maxRecDepth 20000 in
theorem ggX10_same_X10_refusesBoth : GoodIn wsX10_same wsX10_refusesBoth := goodIn_r _ [7, 8, 9, 10, 6, 11, 12, 13, 14, 15, 16, 17, 18, 19, 20, 21, 22, 23, 24, 25, 26, 27, 60, 61, 62, 63, 64, 65, 66, 67, 68, 69, 70, 71, 72, 73, 74, 75, 76, 77, 78, 79, 80, 81, 82, 83, 84, 85] (by decide +kernel) (by decide +kernel)
set_option maxRecDepth 20000 in
theorem gX10_same_X10_refusesBoth : GoodIn wsX10_same (wsV RX10 241 RX10 yX10_refusesBoth wsX10_refusesBoth) := goodIn_app (goodIn_of _ (by decide +kernel)) ggX10_same_X10_refusesBoth
set_option maxRecDepth 20000 in
theorem ggX10_same_X10_rows : GoodIn wsX10_same wsX10_rows := goodIn_r _ [31, 16, 60, 61, 62, 63, 64, 65, 66, 67, 68, 69, 70, 71, 72, 73, 74, 75, 76, 77, 78, 79, 80, 81, 82, 83, 84, 85] (by decide +kernel) (by decide +kernel)
set_option maxRecDepth 20000 in
theorem gX10_same_X10_rows : GoodIn wsX10_same (wsV RX10 82 RX10 yX10_rows wsX10_rows) := goodIn_app (goodIn_of _ (by decide +kernel)) ggX10_same_X10_rows
set_option maxRecDepth 20000 in
theorem ggX10_same_X10_areSame : GoodIn wsX10_same wsX10_areSame := goodIn_r _ [35, 36, 24, 25, 26, 6, 27, 16, 37, 38, 39, 40, 41, 42, 43, 17, 18, 19, 44, 45, 46, 47, 48, 49, 50, 51, 52, 53, 54, 60, 61, 62, 63, 64, 65, 66, 67, 68, 69, 70, 71, 72, 73, 74, 75, 76, 77, 78, 79, 80, 81, 82, 83, 84, 85] (by decide +kernel) (by decide +kernel)
set_option maxRecDepth 20000 in
theorem gX10_same_X10_areSame : GoodIn wsX10_same (wsV RX10 255 RX10 yX10_areSame wsX10_areSame) := goodIn_app (goodIn_of _ (by decide +kernel)) ggX10_same_X10_areSame
set_option maxRecDepth 20000 in
theorem ggX10_same_X10_tell : GoodIn wsX10_same wsX10_tell := goodIn_r _ [58, 59, 2, 60, 61, 62, 63, 64, 65, 66, 67, 68, 69, 70, 71, 72, 73, 74, 75, 76, 77, 78, 79, 80, 81, 82, 83, 84, 85] (by decide +kernel) (by decide +kernel)
set_option maxRecDepth 20000 in
theorem gX10_same_X10_tell : GoodIn wsX10_same (wsV RX10 237 RX10 yX10_tell wsX10_tell) := goodIn_app (goodIn_of _ (by decide +kernel)) ggX10_same_X10_tell
theorem dX10_same_0 : decode cX10_same 0 = .ok (.aload_n 0, 1) := by decide +kernel
theorem dX10_same_1 : decode cX10_same 1 = .ok (.iconst 0, 1) := by decide +kernel
theorem dX10_same_2 : decode cX10_same 2 = .ok (.putfield 67, 3) := by decide +kernel
theorem dX10_same_5 : decode cX10_same 5 = .ok (.aload_n 0, 1) := by decide +kernel
theorem dX10_same_6 : decode cX10_same 6 = .ok (.iload_n 1, 1) := by decide +kernel
theorem dX10_same_7 : decode cX10_same 7 = .ok (.iload_n 2, 1) := by decide +kernel
theorem dX10_same_8 : decode cX10_same 8 = .ok (.invokevirtual 241, 3) := by decide +kernel
theorem dX10_same_11 : decode cX10_same 11 = .ok (.istore_n 3, 1) := by decide +kernel
theorem dX10_same_12 : decode cX10_same 12 = .ok (.iload_n 3, 1) := by decide +kernel
theorem dX10_same_13 : decode cX10_same 13 = .ok (.ifCond .ge 5, 3) := by decide +kernel
theorem dX10_same_16 : decode cX10_same 16 = .ok (.iload_n 3, 1) := by decide +kernel
theorem dX10_same_17 : decode cX10_same 17 = .ok (.ireturn, 1) := by decide +kernel
theorem dX10_same_18 : decode cX10_same 18 = .ok (.iconst 0, 1) := by decide +kernel
theorem dX10_same_19 : decode cX10_same 19 = .ok (.istore 4, 2) := by decide +kernel
theorem dX10_same_21 : decode cX10_same 21 = .ok (.iconst (-1), 1) := by decide +kernel
theorem dX10_same_22 : decode cX10_same 22 = .ok (.istore 5, 2) := by decide +kernel
theorem dX10_same_24 : decode cX10_same 24 = .ok (.aload_n 0, 1) := by decide +kernel
theorem dX10_same_25 : decode cX10_same 25 = .ok (.invokevirtual 82, 3) := by decide +kernel
theorem dX10_same_28 : decode cX10_same 28 = .ok (.iconst 1, 1) := by decide +kernel
theorem dX10_same_29 : decode cX10_same 29 = .ok (.isub, 1) := by decide +kernel
theorem dX10_same_30 : decode cX10_same 30 = .ok (.istore 6, 2) := by decide +kernel
theorem dX10_same_32 : decode cX10_same 32 = .ok (.iload 6, 2) := by decide +kernel
theorem dX10_same_34 : decode cX10_same 34 = .ok (.ifCond .lt 30, 3) := by decide +kernel
theorem dX10_same_37 : decode cX10_same 37 = .ok (.aload_n 0, 1) := by decide +kernel
theorem dX10_same_38 : decode cX10_same 38 = .ok (.iload_n 1, 1) := by decide +kernel
theorem dX10_same_39 : decode cX10_same 39 = .ok (.iload_n 2, 1) := by decide +kernel
theorem dX10_same_40 : decode cX10_same 40 = .ok (.iload 6, 2) := by decide +kernel
theorem dX10_same_42 : decode cX10_same 42 = .ok (.invokevirtual 255, 3) := by decide +kernel
theorem dX10_same_45 : decode cX10_same 45 = .ok (.ifCond .eq 9, 3) := by decide +kernel
theorem dX10_same_48 : decode cX10_same 48 = .ok (.iinc 4 1, 3) := by decide +kernel
theorem dX10_same_51 : decode cX10_same 51 = .ok (.goto 7, 3) := by decide +kernel
theorem dX10_same_54 : decode cX10_same 54 = .ok (.iload 6, 2) := by decide +kernel
theorem dX10_same_56 : decode cX10_same 56 = .ok (.istore 5, 2) := by decide +kernel
theorem dX10_same_58 : decode cX10_same 58 = .ok (.iinc 6 (-1), 3) := by decide +kernel
theorem dX10_same_61 : decode cX10_same 61 = .ok (.goto (-29), 3) := by decide +kernel
theorem dX10_same_64 : decode cX10_same 64 = .ok (.aload_n 0, 1) := by decide +kernel
theorem dX10_same_65 : decode cX10_same 65 = .ok (.iconst 0, 1) := by decide +kernel
theorem dX10_same_66 : decode cX10_same 66 = .ok (.putfield 71, 3) := by decide +kernel
theorem dX10_same_69 : decode cX10_same 69 = .ok (.aload_n 0, 1) := by decide +kernel
theorem dX10_same_70 : decode cX10_same 70 = .ok (.iload 5, 2) := by decide +kernel
theorem dX10_same_72 : decode cX10_same 72 = .ok (.i2l, 1) := by decide +kernel
theorem dX10_same_73 : decode cX10_same 73 = .ok (.invokevirtual 237, 3) := by decide +kernel
theorem dX10_same_76 : decode cX10_same 76 = .ok (.iload 4, 2) := by decide +kernel
theorem dX10_same_78 : decode cX10_same 78 = .ok (.ireturn, 1) := by decide +kernel
set_option maxRecDepth 20000 in
theorem ggX10_carries_X10_isColumn : GoodIn wsX10_carries wsX10_isColumn := goodIn_r _ [6, 7, 8, 9, 5, 10, 11, 12, 13, 14, 106, 107, 108, 109, 110, 111, 112, 113, 114, 115, 116, 117, 118, 119, 120, 121, 122, 123, 124, 125, 126, 127, 128, 129, 130, 131] (by decide +kernel) (by decide +kernel)
set_option maxRecDepth 20000 in
theorem gX10_carries_X10_isColumn : GoodIn wsX10_carries (wsV RX10 85 RX10 yX10_isColumn wsX10_isColumn) := goodIn_app (goodIn_of _ (by decide +kernel)) ggX10_carries_X10_isColumn
set_option maxRecDepth 20000 in
theorem ggX10_carries_X10_in : GoodIn wsX10_carries wsX10_in := goodIn_r _ [14] (by decide +kernel) (by decide +kernel)
set_option maxRecDepth 20000 in
theorem gX10_carries_X10_in : GoodIn wsX10_carries (va_wsS RX10 78 yX10_in wsX10_in) := goodIn_app (goodIn_of _ (by decide +kernel)) ggX10_carries_X10_in
set_option maxRecDepth 20000 in
theorem ggX10_carries_X10_whyTaken : GoodIn wsX10_carries wsX10_whyTaken := goodIn_r _ [18, 19, 20, 21, 5, 22, 11, 23, 24, 25, 26, 27, 28, 29, 30, 31, 32, 33, 34, 35, 36, 37, 38, 39, 40, 41, 42, 12, 13, 14, 106, 107, 108, 109, 110, 111, 112, 113, 114, 115, 116, 117, 118, 119, 120, 121, 122, 123, 124, 125, 126, 127, 128, 129, 130, 131] (by decide +kernel) (by decide +kernel)
set_option maxRecDepth 20000 in
theorem gX10_carries_X10_whyTaken : GoodIn wsX10_carries (wsV RX10 230 RX10 yX10_whyTaken wsX10_whyTaken) := goodIn_app (goodIn_of _ (by decide +kernel)) ggX10_carries_X10_whyTaken
set_option maxRecDepth 20000 in
theorem ggX10_carries_X10_cell : GoodIn wsX10_carries wsX10_cell := goodIn_r _ [46, 11, 47, 48, 5, 49, 106, 107, 108, 109, 110, 111, 112, 113, 114, 115, 116, 117, 118, 119, 120, 121, 122, 123, 124, 125, 126, 127, 128, 129, 130, 131] (by decide +kernel) (by decide +kernel)
set_option maxRecDepth 20000 in
theorem gX10_carries_X10_cell : GoodIn wsX10_carries (wsV RX10 234 RX10 yX10_cell wsX10_cell) := goodIn_app (goodIn_of _ (by decide +kernel)) ggX10_carries_X10_cell
set_option maxRecDepth 20000 in
theorem ggX10_carries_X10_kindOf : GoodIn wsX10_carries wsX10_kindOf := goodIn_r _ [22, 11, 106, 107, 108, 109, 110, 111, 112, 113, 114, 115, 116, 117, 118, 119, 120, 121, 122, 123, 124, 125, 126, 127, 128, 129, 130, 131] (by decide +kernel) (by decide +kernel)
set_option maxRecDepth 20000 in
theorem gX10_carries_X10_kindOf : GoodIn wsX10_carries (wsV RX10 89 RX10 yX10_kindOf wsX10_kindOf) := goodIn_app (goodIn_of _ (by decide +kernel)) ggX10_carries_X10_kindOf
set_option maxRecDepth 20000 in
theorem ggX10_carries_X10_widened : GoodIn wsX10_carries wsX10_widened := goodIn_r _ [52, 53, 54, 55, 56, 57, 58, 59, 60, 61, 62, 63, 64, 65, 66, 67, 68, 69, 70, 71, 72, 73, 74, 75, 76, 77, 78, 79] (by decide +kernel) (by decide +kernel)
set_option maxRecDepth 20000 in
theorem gX10_carries_X10_widened : GoodIn wsX10_carries (va_wsS RX10 198 yX10_widened wsX10_widened) := goodIn_app (goodIn_of _ (by decide +kernel)) ggX10_carries_X10_widened
set_option maxRecDepth 20000 in
theorem ggX10_carries_X10_canHold : GoodIn wsX10_carries wsX10_canHold := goodIn_r _ [83, 84, 85, 5, 86, 23, 24, 25, 26] (by decide +kernel) (by decide +kernel)
set_option maxRecDepth 20000 in
theorem gX10_carries_X10_canHold : GoodIn wsX10_carries (wsV RX10 210 RX10 yX10_canHold wsX10_canHold) := goodIn_app (goodIn_of _ (by decide +kernel)) ggX10_carries_X10_canHold
set_option maxRecDepth 20000 in
theorem ggX10_carries_X10_whyNot : GoodIn wsX10_carries wsX10_whyNot := goodIn_r _ [30, 31, 32, 33, 5, 34, 19, 20, 21, 22, 11, 35, 36, 37, 38, 39, 40, 41, 42, 12, 13, 14, 106, 107, 108, 109, 110, 111, 112, 113, 114, 115, 116, 117, 118, 119, 120, 121, 122, 123, 124, 125, 126, 127, 128, 129, 130, 131] (by decide +kernel) (by decide +kernel)
set_option maxRecDepth 20000 in
theorem gX10_carries_X10_whyNot : GoodIn wsX10_carries (wsV RX10 213 RX10 yX10_whyNot wsX10_whyNot) := goodIn_app (goodIn_of _ (by decide +kernel)) ggX10_carries_X10_whyNot
set_option maxRecDepth 20000 in
theorem ggX10_carries_X10_change : GoodIn wsX10_carries wsX10_change := goodIn_r _ [90, 91, 92, 93, 5, 94, 95, 11, 96, 97, 98, 99, 100, 101, 106, 107, 108, 109, 110, 111, 112, 113, 114, 115, 116, 117, 118, 119, 120, 121, 122, 123, 124, 125, 126, 127, 128, 129, 130, 131] (by decide +kernel) (by decide +kernel)
set_option maxRecDepth 20000 in
theorem gX10_carries_X10_change : GoodIn wsX10_carries (wsV RX10 148 RX10 yX10_change wsX10_change) := goodIn_app (goodIn_of _ (by decide +kernel)) ggX10_carries_X10_change
set_option maxRecDepth 20000 in
theorem ggX10_carries_X10_store : GoodIn wsX10_carries wsX10_store := goodIn_r _ [105, 11, 84, 85, 5, 86, 47, 48, 49, 19, 20, 21, 22, 50, 51, 52, 53, 54, 55, 56, 57, 58, 59, 60, 61, 62, 63, 64, 65, 66, 67, 68, 69, 70, 71, 72, 73, 74, 75, 76, 77, 78, 79, 106, 107, 108, 109, 110, 111, 112, 113, 114, 115, 116, 117, 118, 119, 120, 121, 122, 123, 124, 125, 126, 127, 128, 129, 130, 131] (by decide +kernel) (by decide +kernel)
set_option maxRecDepth 20000 in
theorem gX10_carries_X10_store : GoodIn wsX10_carries (wsV RX10 220 RX10 yX10_store wsX10_store) := goodIn_app (goodIn_of _ (by decide +kernel)) ggX10_carries_X10_store
theorem dX10_carries_0 : decode cX10_carries 0 = .ok (.aload_n 0, 1) := by decide +kernel
theorem dX10_carries_1 : decode cX10_carries 1 = .ok (.iconst 0, 1) := by decide +kernel
theorem dX10_carries_2 : decode cX10_carries 2 = .ok (.putfield 67, 3) := by decide +kernel
theorem dX10_carries_5 : decode cX10_carries 5 = .ok (.aload_n 0, 1) := by decide +kernel
theorem dX10_carries_6 : decode cX10_carries 6 = .ok (.iload_n 1, 1) := by decide +kernel
theorem dX10_carries_7 : decode cX10_carries 7 = .ok (.invokevirtual 85, 3) := by decide +kernel
theorem dX10_carries_10 : decode cX10_carries 10 = .ok (.ifCond .eq 22, 3) := by decide +kernel
theorem dX10_carries_13 : decode cX10_carries 13 = .ok (.aload_n 0, 1) := by decide +kernel
theorem dX10_carries_14 : decode cX10_carries 14 = .ok (.iload_n 3, 1) := by decide +kernel
theorem dX10_carries_15 : decode cX10_carries 15 = .ok (.invokevirtual 85, 3) := by decide +kernel
theorem dX10_carries_18 : decode cX10_carries 18 = .ok (.ifCond .eq 14, 3) := by decide +kernel
theorem dX10_carries_21 : decode cX10_carries 21 = .ok (.iload 5, 2) := by decide +kernel
theorem dX10_carries_23 : decode cX10_carries 23 = .ok (.iconst 0, 1) := by decide +kernel
theorem dX10_carries_24 : decode cX10_carries 24 = .ok (.bipush 7, 2) := by decide +kernel
theorem dX10_carries_26 : decode cX10_carries 26 = .ok (.invokestatic 78, 3) := by decide +kernel
theorem dX10_carries_29 : decode cX10_carries 29 = .ok (.ifCond .ne 5, 3) := by decide +kernel
theorem dX10_carries_32 : decode cX10_carries 32 = .ok (.iconst (-1), 1) := by decide +kernel
theorem dX10_carries_33 : decode cX10_carries 33 = .ok (.ireturn, 1) := by decide +kernel
theorem dX10_carries_34 : decode cX10_carries 34 = .ok (.aload_n 0, 1) := by decide +kernel
theorem dX10_carries_35 : decode cX10_carries 35 = .ok (.iload_n 1, 1) := by decide +kernel
theorem dX10_carries_36 : decode cX10_carries 36 = .ok (.iload_n 2, 1) := by decide +kernel
theorem dX10_carries_37 : decode cX10_carries 37 = .ok (.iload 5, 2) := by decide +kernel
theorem dX10_carries_39 : decode cX10_carries 39 = .ok (.invokevirtual 230, 3) := by decide +kernel
theorem dX10_carries_42 : decode cX10_carries 42 = .ok (.istore 6, 2) := by decide +kernel
theorem dX10_carries_44 : decode cX10_carries 44 = .ok (.iload 6, 2) := by decide +kernel
theorem dX10_carries_46 : decode cX10_carries 46 = .ok (.ifCond .le 7, 3) := by decide +kernel
theorem dX10_carries_49 : decode cX10_carries 49 = .ok (.iload 6, 2) := by decide +kernel
theorem dX10_carries_51 : decode cX10_carries 51 = .ok (.ineg, 1) := by decide +kernel
theorem dX10_carries_52 : decode cX10_carries 52 = .ok (.ireturn, 1) := by decide +kernel
theorem dX10_carries_53 : decode cX10_carries 53 = .ok (.aload_n 0, 1) := by decide +kernel
theorem dX10_carries_54 : decode cX10_carries 54 = .ok (.iload_n 1, 1) := by decide +kernel
theorem dX10_carries_55 : decode cX10_carries 55 = .ok (.iload_n 2, 1) := by decide +kernel
theorem dX10_carries_56 : decode cX10_carries 56 = .ok (.invokevirtual 234, 3) := by decide +kernel
theorem dX10_carries_59 : decode cX10_carries 59 = .ok (.aload_n 0, 1) := by decide +kernel
theorem dX10_carries_60 : decode cX10_carries 60 = .ok (.iload_n 1, 1) := by decide +kernel
theorem dX10_carries_61 : decode cX10_carries 61 = .ok (.invokevirtual 89, 3) := by decide +kernel
theorem dX10_carries_64 : decode cX10_carries 64 = .ok (.iload 5, 2) := by decide +kernel
theorem dX10_carries_66 : decode cX10_carries 66 = .ok (.invokestatic 198, 3) := by decide +kernel
theorem dX10_carries_69 : decode cX10_carries 69 = .ok (.lstore 7, 2) := by decide +kernel
theorem dX10_carries_71 : decode cX10_carries 71 = .ok (.aload_n 0, 1) := by decide +kernel
theorem dX10_carries_72 : decode cX10_carries 72 = .ok (.iload_n 3, 1) := by decide +kernel
theorem dX10_carries_73 : decode cX10_carries 73 = .ok (.iload 4, 2) := by decide +kernel
theorem dX10_carries_75 : decode cX10_carries 75 = .ok (.iload 5, 2) := by decide +kernel
theorem dX10_carries_77 : decode cX10_carries 77 = .ok (.aload_n 0, 1) := by decide +kernel
theorem dX10_carries_78 : decode cX10_carries 78 = .ok (.aload_n 0, 1) := by decide +kernel
theorem dX10_carries_79 : decode cX10_carries 79 = .ok (.iload_n 3, 1) := by decide +kernel
theorem dX10_carries_80 : decode cX10_carries 80 = .ok (.invokevirtual 89, 3) := by decide +kernel
theorem dX10_carries_83 : decode cX10_carries 83 = .ok (.iload 5, 2) := by decide +kernel
theorem dX10_carries_85 : decode cX10_carries 85 = .ok (.invokevirtual 210, 3) := by decide +kernel
theorem dX10_carries_88 : decode cX10_carries 88 = .ok (.invokevirtual 213, 3) := by decide +kernel
theorem dX10_carries_91 : decode cX10_carries 91 = .ok (.istore 6, 2) := by decide +kernel
theorem dX10_carries_93 : decode cX10_carries 93 = .ok (.iload 6, 2) := by decide +kernel
theorem dX10_carries_95 : decode cX10_carries 95 = .ok (.ifCond .le 9, 3) := by decide +kernel
theorem dX10_carries_98 : decode cX10_carries 98 = .ok (.bipush (-10), 2) := by decide +kernel
theorem dX10_carries_100 : decode cX10_carries 100 = .ok (.iload 6, 2) := by decide +kernel
theorem dX10_carries_102 : decode cX10_carries 102 = .ok (.isub, 1) := by decide +kernel
theorem dX10_carries_103 : decode cX10_carries 103 = .ok (.ireturn, 1) := by decide +kernel
theorem dX10_carries_104 : decode cX10_carries 104 = .ok (.aload_n 0, 1) := by decide +kernel
theorem dX10_carries_105 : decode cX10_carries 105 = .ok (.invokevirtual 148, 3) := by decide +kernel
theorem dX10_carries_108 : decode cX10_carries 108 = .ok (.aload_n 0, 1) := by decide +kernel
theorem dX10_carries_109 : decode cX10_carries 109 = .ok (.iload_n 3, 1) := by decide +kernel
theorem dX10_carries_110 : decode cX10_carries 110 = .ok (.iload 4, 2) := by decide +kernel
theorem dX10_carries_112 : decode cX10_carries 112 = .ok (.iload 5, 2) := by decide +kernel
theorem dX10_carries_114 : decode cX10_carries 114 = .ok (.lload 7, 2) := by decide +kernel
theorem dX10_carries_116 : decode cX10_carries 116 = .ok (.invokevirtual 220, 3) := by decide +kernel
theorem dX10_carries_119 : decode cX10_carries 119 = .ok (.iconst 0, 1) := by decide +kernel
theorem dX10_carries_120 : decode cX10_carries 120 = .ok (.ireturn, 1) := by decide +kernel
set_option maxRecDepth 20000 in
theorem ggX10_ways_X10_isColumn : GoodIn wsX10_ways wsX10_isColumn := goodIn_r _ [7, 8, 9, 10, 6, 11, 12, 13, 14, 15, 56, 57, 58, 59, 60, 61, 62, 63, 64, 65, 66, 67, 68, 69, 70, 71, 72, 73, 74, 75, 76, 77, 78, 79, 80, 81] (by decide +kernel) (by decide +kernel)
set_option maxRecDepth 20000 in
theorem gX10_ways_X10_isColumn : GoodIn wsX10_ways (wsV RX10 85 RX10 yX10_isColumn wsX10_isColumn) := goodIn_app (goodIn_of _ (by decide +kernel)) ggX10_ways_X10_isColumn
set_option maxRecDepth 20000 in
theorem ggX10_ways_X10_whyTaken : GoodIn wsX10_ways wsX10_whyTaken := goodIn_r _ [19, 20, 21, 22, 6, 23, 12, 24, 25, 26, 27, 28, 29, 30, 31, 32, 33, 34, 35, 36, 37, 38, 39, 40, 41, 42, 43, 13, 14, 15, 56, 57, 58, 59, 60, 61, 62, 63, 64, 65, 66, 67, 68, 69, 70, 71, 72, 73, 74, 75, 76, 77, 78, 79, 80, 81] (by decide +kernel) (by decide +kernel)
set_option maxRecDepth 20000 in
theorem gX10_ways_X10_whyTaken : GoodIn wsX10_ways (wsV RX10 230 RX10 yX10_whyTaken wsX10_whyTaken) := goodIn_app (goodIn_of _ (by decide +kernel)) ggX10_ways_X10_whyTaken
set_option maxRecDepth 20000 in
theorem ggX10_ways_X10_kindOf : GoodIn wsX10_ways wsX10_kindOf := goodIn_r _ [23, 12, 56, 57, 58, 59, 60, 61, 62, 63, 64, 65, 66, 67, 68, 69, 70, 71, 72, 73, 74, 75, 76, 77, 78, 79, 80, 81] (by decide +kernel) (by decide +kernel)
set_option maxRecDepth 20000 in
theorem gX10_ways_X10_kindOf : GoodIn wsX10_ways (wsV RX10 89 RX10 yX10_kindOf wsX10_kindOf) := goodIn_app (goodIn_of _ (by decide +kernel)) ggX10_ways_X10_kindOf
set_option maxRecDepth 20000 in
theorem ggX10_ways_X10_canHold : GoodIn wsX10_ways wsX10_canHold := goodIn_r _ [47, 48, 49, 6, 50, 24, 25, 26, 27] (by decide +kernel) (by decide +kernel)
set_option maxRecDepth 20000 in
theorem gX10_ways_X10_canHold : GoodIn wsX10_ways (wsV RX10 210 RX10 yX10_canHold wsX10_canHold) := goodIn_app (goodIn_of _ (by decide +kernel)) ggX10_ways_X10_canHold
set_option maxRecDepth 20000 in
theorem ggX10_ways_X10_whyNot : GoodIn wsX10_ways wsX10_whyNot := goodIn_r _ [31, 32, 33, 34, 6, 35, 20, 21, 22, 23, 12, 36, 37, 38, 39, 40, 41, 42, 43, 13, 14, 15, 56, 57, 58, 59, 60, 61, 62, 63, 64, 65, 66, 67, 68, 69, 70, 71, 72, 73, 74, 75, 76, 77, 78, 79, 80, 81] (by decide +kernel) (by decide +kernel)
set_option maxRecDepth 20000 in
theorem gX10_ways_X10_whyNot : GoodIn wsX10_ways (wsV RX10 213 RX10 yX10_whyNot wsX10_whyNot) := goodIn_app (goodIn_of _ (by decide +kernel)) ggX10_ways_X10_whyNot
set_option maxRecDepth 20000 in
theorem ggX10_ways_X10_tell : GoodIn wsX10_ways wsX10_tell := goodIn_r _ [54, 55, 2, 56, 57, 58, 59, 60, 61, 62, 63, 64, 65, 66, 67, 68, 69, 70, 71, 72, 73, 74, 75, 76, 77, 78, 79, 80, 81] (by decide +kernel) (by decide +kernel)
set_option maxRecDepth 20000 in
theorem gX10_ways_X10_tell : GoodIn wsX10_ways (wsV RX10 237 RX10 yX10_tell wsX10_tell) := goodIn_app (goodIn_of _ (by decide +kernel)) ggX10_ways_X10_tell
theorem dX10_ways_0 : decode cX10_ways 0 = .ok (.aload_n 0, 1) := by decide +kernel
theorem dX10_ways_1 : decode cX10_ways 1 = .ok (.iconst 0, 1) := by decide +kernel
theorem dX10_ways_2 : decode cX10_ways 2 = .ok (.putfield 67, 3) := by decide +kernel
theorem dX10_ways_5 : decode cX10_ways 5 = .ok (.aload_n 0, 1) := by decide +kernel
theorem dX10_ways_6 : decode cX10_ways 6 = .ok (.iload_n 1, 1) := by decide +kernel
theorem dX10_ways_7 : decode cX10_ways 7 = .ok (.invokevirtual 85, 3) := by decide +kernel
theorem dX10_ways_10 : decode cX10_ways 10 = .ok (.ifCond .ne 5, 3) := by decide +kernel
theorem dX10_ways_13 : decode cX10_ways 13 = .ok (.iconst (-1), 1) := by decide +kernel
theorem dX10_ways_14 : decode cX10_ways 14 = .ok (.ireturn, 1) := by decide +kernel
theorem dX10_ways_15 : decode cX10_ways 15 = .ok (.iconst 0, 1) := by decide +kernel
theorem dX10_ways_16 : decode cX10_ways 16 = .ok (.istore_n 2, 1) := by decide +kernel
theorem dX10_ways_17 : decode cX10_ways 17 = .ok (.iconst 0, 1) := by decide +kernel
theorem dX10_ways_18 : decode cX10_ways 18 = .ok (.istore_n 3, 1) := by decide +kernel
theorem dX10_ways_19 : decode cX10_ways 19 = .ok (.iconst 0, 1) := by decide +kernel
theorem dX10_ways_20 : decode cX10_ways 20 = .ok (.istore 4, 2) := by decide +kernel
theorem dX10_ways_22 : decode cX10_ways 22 = .ok (.iload 4, 2) := by decide +kernel
theorem dX10_ways_24 : decode cX10_ways 24 = .ok (.bipush 8, 2) := by decide +kernel
theorem dX10_ways_26 : decode cX10_ways 26 = .ok (.if_icmp .ge 64, 3) := by decide +kernel
theorem dX10_ways_29 : decode cX10_ways 29 = .ok (.iload_n 2, 1) := by decide +kernel
theorem dX10_ways_30 : decode cX10_ways 30 = .ok (.aload_n 0, 1) := by decide +kernel
theorem dX10_ways_31 : decode cX10_ways 31 = .ok (.iload_n 1, 1) := by decide +kernel
theorem dX10_ways_32 : decode cX10_ways 32 = .ok (.iconst 0, 1) := by decide +kernel
theorem dX10_ways_33 : decode cX10_ways 33 = .ok (.iload 4, 2) := by decide +kernel
theorem dX10_ways_35 : decode cX10_ways 35 = .ok (.invokevirtual 230, 3) := by decide +kernel
theorem dX10_ways_38 : decode cX10_ways 38 = .ok (.ifCond .ne 10, 3) := by decide +kernel
theorem dX10_ways_41 : decode cX10_ways 41 = .ok (.iconst 1, 1) := by decide +kernel
theorem dX10_ways_42 : decode cX10_ways 42 = .ok (.iload 4, 2) := by decide +kernel
theorem dX10_ways_44 : decode cX10_ways 44 = .ok (.ishl, 1) := by decide +kernel
theorem dX10_ways_45 : decode cX10_ways 45 = .ok (.goto 4, 3) := by decide +kernel
theorem dX10_ways_48 : decode cX10_ways 48 = .ok (.iconst 0, 1) := by decide +kernel
theorem dX10_ways_49 : decode cX10_ways 49 = .ok (.ior, 1) := by decide +kernel
theorem dX10_ways_50 : decode cX10_ways 50 = .ok (.istore_n 2, 1) := by decide +kernel
theorem dX10_ways_51 : decode cX10_ways 51 = .ok (.iload_n 3, 1) := by decide +kernel
theorem dX10_ways_52 : decode cX10_ways 52 = .ok (.aload_n 0, 1) := by decide +kernel
theorem dX10_ways_53 : decode cX10_ways 53 = .ok (.iload_n 1, 1) := by decide +kernel
theorem dX10_ways_54 : decode cX10_ways 54 = .ok (.iconst 0, 1) := by decide +kernel
theorem dX10_ways_55 : decode cX10_ways 55 = .ok (.iload 4, 2) := by decide +kernel
theorem dX10_ways_57 : decode cX10_ways 57 = .ok (.aload_n 0, 1) := by decide +kernel
theorem dX10_ways_58 : decode cX10_ways 58 = .ok (.aload_n 0, 1) := by decide +kernel
theorem dX10_ways_59 : decode cX10_ways 59 = .ok (.iload_n 1, 1) := by decide +kernel
theorem dX10_ways_60 : decode cX10_ways 60 = .ok (.invokevirtual 89, 3) := by decide +kernel
theorem dX10_ways_63 : decode cX10_ways 63 = .ok (.iload 4, 2) := by decide +kernel
theorem dX10_ways_65 : decode cX10_ways 65 = .ok (.invokevirtual 210, 3) := by decide +kernel
theorem dX10_ways_68 : decode cX10_ways 68 = .ok (.invokevirtual 213, 3) := by decide +kernel
theorem dX10_ways_71 : decode cX10_ways 71 = .ok (.ifCond .ne 10, 3) := by decide +kernel
theorem dX10_ways_74 : decode cX10_ways 74 = .ok (.iconst 1, 1) := by decide +kernel
theorem dX10_ways_75 : decode cX10_ways 75 = .ok (.iload 4, 2) := by decide +kernel
theorem dX10_ways_77 : decode cX10_ways 77 = .ok (.ishl, 1) := by decide +kernel
theorem dX10_ways_78 : decode cX10_ways 78 = .ok (.goto 4, 3) := by decide +kernel
theorem dX10_ways_81 : decode cX10_ways 81 = .ok (.iconst 0, 1) := by decide +kernel
theorem dX10_ways_82 : decode cX10_ways 82 = .ok (.ior, 1) := by decide +kernel
theorem dX10_ways_83 : decode cX10_ways 83 = .ok (.istore_n 3, 1) := by decide +kernel
theorem dX10_ways_84 : decode cX10_ways 84 = .ok (.iinc 4 1, 3) := by decide +kernel
theorem dX10_ways_87 : decode cX10_ways 87 = .ok (.goto (-65), 3) := by decide +kernel
theorem dX10_ways_90 : decode cX10_ways 90 = .ok (.aload_n 0, 1) := by decide +kernel
theorem dX10_ways_91 : decode cX10_ways 91 = .ok (.iconst 0, 1) := by decide +kernel
theorem dX10_ways_92 : decode cX10_ways 92 = .ok (.putfield 71, 3) := by decide +kernel
theorem dX10_ways_95 : decode cX10_ways 95 = .ok (.aload_n 0, 1) := by decide +kernel
theorem dX10_ways_96 : decode cX10_ways 96 = .ok (.iload_n 3, 1) := by decide +kernel
theorem dX10_ways_97 : decode cX10_ways 97 = .ok (.i2l, 1) := by decide +kernel
theorem dX10_ways_98 : decode cX10_ways 98 = .ok (.invokevirtual 237, 3) := by decide +kernel
theorem dX10_ways_101 : decode cX10_ways 101 = .ok (.iload_n 2, 1) := by decide +kernel
theorem dX10_ways_102 : decode cX10_ways 102 = .ok (.ireturn, 1) := by decide +kernel
set_option maxRecDepth 20000 in
theorem ggX10_isLesser_X10_worth : GoodIn wsX10_isLesser wsX10_worth := goodIn_r _ [6, 7, 8, 9, 10, 11, 12, 13, 14] (by decide +kernel) (by decide +kernel)
set_option maxRecDepth 20000 in
theorem gX10_isLesser_X10_worth : GoodIn wsX10_isLesser (va_wsS RX10 251 yX10_worth wsX10_worth) := goodIn_app (goodIn_of _ (by decide +kernel)) ggX10_isLesser_X10_worth
theorem dX10_isLesser_0 : decode cX10_isLesser 0 = .ok (.lload_n 2, 1) := by decide +kernel
theorem dX10_isLesser_1 : decode cX10_isLesser 1 = .ok (.lload 4, 2) := by decide +kernel
theorem dX10_isLesser_3 : decode cX10_isLesser 3 = .ok (.lcmp, 1) := by decide +kernel
theorem dX10_isLesser_4 : decode cX10_isLesser 4 = .ok (.ifCond .ne 5, 3) := by decide +kernel
theorem dX10_isLesser_7 : decode cX10_isLesser 7 = .ok (.iconst 0, 1) := by decide +kernel
theorem dX10_isLesser_8 : decode cX10_isLesser 8 = .ok (.ireturn, 1) := by decide +kernel
theorem dX10_isLesser_9 : decode cX10_isLesser 9 = .ok (.iload_n 1, 1) := by decide +kernel
theorem dX10_isLesser_10 : decode cX10_isLesser 10 = .ok (.bipush 8, 2) := by decide +kernel
theorem dX10_isLesser_12 : decode cX10_isLesser 12 = .ok (.if_icmp .lt 34, 3) := by decide +kernel
theorem dX10_isLesser_15 : decode cX10_isLesser 15 = .ok (.lload_n 2, 1) := by decide +kernel
theorem dX10_isLesser_16 : decode cX10_isLesser 16 = .ok (.ldc2_w 124, 3) := by decide +kernel
theorem dX10_isLesser_19 : decode cX10_isLesser 19 = .ok (.lcmp, 1) := by decide +kernel
theorem dX10_isLesser_20 : decode cX10_isLesser 20 = .ok (.ifCond .eq 12, 3) := by decide +kernel
theorem dX10_isLesser_23 : decode cX10_isLesser 23 = .ok (.lload 4, 2) := by decide +kernel
theorem dX10_isLesser_25 : decode cX10_isLesser 25 = .ok (.ldc2_w 124, 3) := by decide +kernel
theorem dX10_isLesser_28 : decode cX10_isLesser 28 = .ok (.lcmp, 1) := by decide +kernel
theorem dX10_isLesser_29 : decode cX10_isLesser 29 = .ok (.ifCond .ne 17, 3) := by decide +kernel
theorem dX10_isLesser_32 : decode cX10_isLesser 32 = .ok (.lload_n 2, 1) := by decide +kernel
theorem dX10_isLesser_33 : decode cX10_isLesser 33 = .ok (.ldc2_w 124, 3) := by decide +kernel
theorem dX10_isLesser_36 : decode cX10_isLesser 36 = .ok (.lcmp, 1) := by decide +kernel
theorem dX10_isLesser_37 : decode cX10_isLesser 37 = .ok (.ifCond .ne 7, 3) := by decide +kernel
theorem dX10_isLesser_40 : decode cX10_isLesser 40 = .ok (.iconst 1, 1) := by decide +kernel
theorem dX10_isLesser_41 : decode cX10_isLesser 41 = .ok (.goto 4, 3) := by decide +kernel
theorem dX10_isLesser_44 : decode cX10_isLesser 44 = .ok (.iconst 0, 1) := by decide +kernel
theorem dX10_isLesser_45 : decode cX10_isLesser 45 = .ok (.ireturn, 1) := by decide +kernel
theorem dX10_isLesser_46 : decode cX10_isLesser 46 = .ok (.iload_n 1, 1) := by decide +kernel
theorem dX10_isLesser_47 : decode cX10_isLesser 47 = .ok (.bipush 6, 2) := by decide +kernel
theorem dX10_isLesser_49 : decode cX10_isLesser 49 = .ok (.if_icmp .eq 9, 3) := by decide +kernel
theorem dX10_isLesser_52 : decode cX10_isLesser 52 = .ok (.iload_n 1, 1) := by decide +kernel
theorem dX10_isLesser_53 : decode cX10_isLesser 53 = .ok (.bipush 7, 2) := by decide +kernel
theorem dX10_isLesser_55 : decode cX10_isLesser 55 = .ok (.if_icmp .ne 24, 3) := by decide +kernel
theorem dX10_isLesser_58 : decode cX10_isLesser 58 = .ok (.iload_n 1, 1) := by decide +kernel
theorem dX10_isLesser_59 : decode cX10_isLesser 59 = .ok (.lload_n 2, 1) := by decide +kernel
theorem dX10_isLesser_60 : decode cX10_isLesser 60 = .ok (.invokestatic 251, 3) := by decide +kernel
theorem dX10_isLesser_63 : decode cX10_isLesser 63 = .ok (.iload_n 1, 1) := by decide +kernel
theorem dX10_isLesser_64 : decode cX10_isLesser 64 = .ok (.lload 4, 2) := by decide +kernel
theorem dX10_isLesser_66 : decode cX10_isLesser 66 = .ok (.invokestatic 251, 3) := by decide +kernel
theorem dX10_isLesser_69 : decode cX10_isLesser 69 = .ok (.dcmp .g, 1) := by decide +kernel
theorem dX10_isLesser_70 : decode cX10_isLesser 70 = .ok (.ifCond .ge 7, 3) := by decide +kernel
theorem dX10_isLesser_73 : decode cX10_isLesser 73 = .ok (.iconst 1, 1) := by decide +kernel
theorem dX10_isLesser_74 : decode cX10_isLesser 74 = .ok (.goto 4, 3) := by decide +kernel
theorem dX10_isLesser_77 : decode cX10_isLesser 77 = .ok (.iconst 0, 1) := by decide +kernel
theorem dX10_isLesser_78 : decode cX10_isLesser 78 = .ok (.ireturn, 1) := by decide +kernel
theorem dX10_isLesser_79 : decode cX10_isLesser 79 = .ok (.iload_n 1, 1) := by decide +kernel
theorem dX10_isLesser_80 : decode cX10_isLesser 80 = .ok (.bipush 9, 2) := by decide +kernel
theorem dX10_isLesser_82 : decode cX10_isLesser 82 = .ok (.if_icmp .ne 56, 3) := by decide +kernel
theorem dX10_isLesser_85 : decode cX10_isLesser 85 = .ok (.lload_n 2, 1) := by decide +kernel
theorem dX10_isLesser_86 : decode cX10_isLesser 86 = .ok (.ldc2_w 258, 3) := by decide +kernel
theorem dX10_isLesser_89 : decode cX10_isLesser 89 = .ok (.lrem, 1) := by decide +kernel
theorem dX10_isLesser_90 : decode cX10_isLesser 90 = .ok (.lload 4, 2) := by decide +kernel
theorem dX10_isLesser_92 : decode cX10_isLesser 92 = .ok (.ldc2_w 258, 3) := by decide +kernel
theorem dX10_isLesser_95 : decode cX10_isLesser 95 = .ok (.lrem, 1) := by decide +kernel
theorem dX10_isLesser_96 : decode cX10_isLesser 96 = .ok (.lcmp, 1) := by decide +kernel
theorem dX10_isLesser_97 : decode cX10_isLesser 97 = .ok (.ifCond .eq 26, 3) := by decide +kernel
theorem dX10_isLesser_100 : decode cX10_isLesser 100 = .ok (.lload_n 2, 1) := by decide +kernel
theorem dX10_isLesser_101 : decode cX10_isLesser 101 = .ok (.ldc2_w 258, 3) := by decide +kernel
theorem dX10_isLesser_104 : decode cX10_isLesser 104 = .ok (.lrem, 1) := by decide +kernel
theorem dX10_isLesser_105 : decode cX10_isLesser 105 = .ok (.lload 4, 2) := by decide +kernel
theorem dX10_isLesser_107 : decode cX10_isLesser 107 = .ok (.ldc2_w 258, 3) := by decide +kernel
theorem dX10_isLesser_110 : decode cX10_isLesser 110 = .ok (.lrem, 1) := by decide +kernel
theorem dX10_isLesser_111 : decode cX10_isLesser 111 = .ok (.lcmp, 1) := by decide +kernel
theorem dX10_isLesser_112 : decode cX10_isLesser 112 = .ok (.ifCond .ge 7, 3) := by decide +kernel
theorem dX10_isLesser_115 : decode cX10_isLesser 115 = .ok (.iconst 1, 1) := by decide +kernel
theorem dX10_isLesser_116 : decode cX10_isLesser 116 = .ok (.goto 34, 3) := by decide +kernel
theorem dX10_isLesser_119 : decode cX10_isLesser 119 = .ok (.iconst 0, 1) := by decide +kernel
theorem dX10_isLesser_120 : decode cX10_isLesser 120 = .ok (.goto 30, 3) := by decide +kernel
theorem dX10_isLesser_123 : decode cX10_isLesser 123 = .ok (.lload_n 2, 1) := by decide +kernel
theorem dX10_isLesser_124 : decode cX10_isLesser 124 = .ok (.lload 4, 2) := by decide +kernel
theorem dX10_isLesser_126 : decode cX10_isLesser 126 = .ok (.lcmp, 1) := by decide +kernel
theorem dX10_isLesser_127 : decode cX10_isLesser 127 = .ok (.ifCond .ge 7, 3) := by decide +kernel
theorem dX10_isLesser_130 : decode cX10_isLesser 130 = .ok (.iconst 1, 1) := by decide +kernel
theorem dX10_isLesser_131 : decode cX10_isLesser 131 = .ok (.goto 19, 3) := by decide +kernel
theorem dX10_isLesser_134 : decode cX10_isLesser 134 = .ok (.iconst 0, 1) := by decide +kernel
theorem dX10_isLesser_135 : decode cX10_isLesser 135 = .ok (.goto 15, 3) := by decide +kernel
theorem dX10_isLesser_138 : decode cX10_isLesser 138 = .ok (.lload_n 2, 1) := by decide +kernel
theorem dX10_isLesser_139 : decode cX10_isLesser 139 = .ok (.lload 4, 2) := by decide +kernel
theorem dX10_isLesser_141 : decode cX10_isLesser 141 = .ok (.lcmp, 1) := by decide +kernel
theorem dX10_isLesser_142 : decode cX10_isLesser 142 = .ok (.ifCond .ge 7, 3) := by decide +kernel
theorem dX10_isLesser_145 : decode cX10_isLesser 145 = .ok (.iconst 1, 1) := by decide +kernel
theorem dX10_isLesser_146 : decode cX10_isLesser 146 = .ok (.goto 4, 3) := by decide +kernel
theorem dX10_isLesser_149 : decode cX10_isLesser 149 = .ok (.iconst 0, 1) := by decide +kernel
theorem dX10_isLesser_150 : decode cX10_isLesser 150 = .ok (.ireturn, 1) := by decide +kernel
set_option maxRecDepth 20000 in
theorem ggX10_isFirst_X10_cell : GoodIn wsX10_isFirst wsX10_cell := goodIn_r _ [5, 6, 7, 8, 4, 9, 10, 11, 12, 13, 14, 15, 16, 17, 18, 19, 20, 21, 22, 23, 24, 25, 26, 27, 28, 29, 30, 31, 32, 33, 34, 35] (by decide +kernel) (by decide +kernel)
set_option maxRecDepth 20000 in
theorem gX10_isFirst_X10_cell : GoodIn wsX10_isFirst (wsV RX10 234 RX10 yX10_cell wsX10_cell) := goodIn_app (goodIn_of _ (by decide +kernel)) ggX10_isFirst_X10_cell
theorem dX10_isFirst_0 : decode cX10_isFirst 0 = .ok (.iconst 0, 1) := by decide +kernel
theorem dX10_isFirst_1 : decode cX10_isFirst 1 = .ok (.istore_n 3, 1) := by decide +kernel
theorem dX10_isFirst_2 : decode cX10_isFirst 2 = .ok (.iload_n 3, 1) := by decide +kernel
theorem dX10_isFirst_3 : decode cX10_isFirst 3 = .ok (.iload_n 2, 1) := by decide +kernel
theorem dX10_isFirst_4 : decode cX10_isFirst 4 = .ok (.if_icmp .ge 27, 3) := by decide +kernel
theorem dX10_isFirst_7 : decode cX10_isFirst 7 = .ok (.aload_n 0, 1) := by decide +kernel
theorem dX10_isFirst_8 : decode cX10_isFirst 8 = .ok (.iload_n 1, 1) := by decide +kernel
theorem dX10_isFirst_9 : decode cX10_isFirst 9 = .ok (.iload_n 3, 1) := by decide +kernel
theorem dX10_isFirst_10 : decode cX10_isFirst 10 = .ok (.invokevirtual 234, 3) := by decide +kernel
theorem dX10_isFirst_13 : decode cX10_isFirst 13 = .ok (.aload_n 0, 1) := by decide +kernel
theorem dX10_isFirst_14 : decode cX10_isFirst 14 = .ok (.iload_n 1, 1) := by decide +kernel
theorem dX10_isFirst_15 : decode cX10_isFirst 15 = .ok (.iload_n 2, 1) := by decide +kernel
theorem dX10_isFirst_16 : decode cX10_isFirst 16 = .ok (.invokevirtual 234, 3) := by decide +kernel
theorem dX10_isFirst_19 : decode cX10_isFirst 19 = .ok (.lcmp, 1) := by decide +kernel
theorem dX10_isFirst_20 : decode cX10_isFirst 20 = .ok (.ifCond .ne 5, 3) := by decide +kernel
theorem dX10_isFirst_23 : decode cX10_isFirst 23 = .ok (.iconst 0, 1) := by decide +kernel
theorem dX10_isFirst_24 : decode cX10_isFirst 24 = .ok (.ireturn, 1) := by decide +kernel
theorem dX10_isFirst_25 : decode cX10_isFirst 25 = .ok (.iinc 3 1, 3) := by decide +kernel
theorem dX10_isFirst_28 : decode cX10_isFirst 28 = .ok (.goto (-26), 3) := by decide +kernel
theorem dX10_isFirst_31 : decode cX10_isFirst 31 = .ok (.iconst 1, 1) := by decide +kernel
theorem dX10_isFirst_32 : decode cX10_isFirst 32 = .ok (.ireturn, 1) := by decide +kernel
set_option maxRecDepth 20000 in
theorem ggX10_rankOf_X10_rows : GoodIn wsX10_rankOf wsX10_rows := goodIn_r _ [5, 6, 39, 40, 41, 42, 43, 44, 45, 46, 47, 48, 49, 50, 51, 52, 53, 54, 55, 56, 57, 58, 59, 60, 61, 62, 63, 64] (by decide +kernel) (by decide +kernel)
set_option maxRecDepth 20000 in
theorem gX10_rankOf_X10_rows : GoodIn wsX10_rankOf (wsV RX10 82 RX10 yX10_rows wsX10_rows) := goodIn_app (goodIn_of _ (by decide +kernel)) ggX10_rankOf_X10_rows
set_option maxRecDepth 20000 in
theorem ggX10_rankOf_X10_isFirst : GoodIn wsX10_rankOf wsX10_isFirst := goodIn_r _ [10, 11, 12, 13, 4, 14, 6, 15, 16, 17, 39, 40, 41, 42, 43, 44, 45, 46, 47, 48, 49, 50, 51, 52, 53, 54, 55, 56, 57, 58, 59, 60, 61, 62, 63, 64] (by decide +kernel) (by decide +kernel)
set_option maxRecDepth 20000 in
theorem gX10_rankOf_X10_isFirst : GoodIn wsX10_rankOf (wsV RX10 260 RX10 yX10_isFirst wsX10_isFirst) := goodIn_app (goodIn_of _ (by decide +kernel)) ggX10_rankOf_X10_isFirst
set_option maxRecDepth 20000 in
theorem ggX10_rankOf_X10_kindOf : GoodIn wsX10_rankOf wsX10_kindOf := goodIn_r _ [21, 6, 39, 40, 41, 42, 43, 44, 45, 46, 47, 48, 49, 50, 51, 52, 53, 54, 55, 56, 57, 58, 59, 60, 61, 62, 63, 64] (by decide +kernel) (by decide +kernel)
set_option maxRecDepth 20000 in
theorem gX10_rankOf_X10_kindOf : GoodIn wsX10_rankOf (wsV RX10 89 RX10 yX10_kindOf wsX10_kindOf) := goodIn_app (goodIn_of _ (by decide +kernel)) ggX10_rankOf_X10_kindOf
set_option maxRecDepth 20000 in
theorem ggX10_rankOf_X10_cell : GoodIn wsX10_rankOf wsX10_cell := goodIn_r _ [14, 6, 15, 16, 4, 17, 39, 40, 41, 42, 43, 44, 45, 46, 47, 48, 49, 50, 51, 52, 53, 54, 55, 56, 57, 58, 59, 60, 61, 62, 63, 64] (by decide +kernel) (by decide +kernel)
set_option maxRecDepth 20000 in
theorem gX10_rankOf_X10_cell : GoodIn wsX10_rankOf (wsV RX10 234 RX10 yX10_cell wsX10_cell) := goodIn_app (goodIn_of _ (by decide +kernel)) ggX10_rankOf_X10_cell
set_option maxRecDepth 20000 in
theorem ggX10_rankOf_X10_isLesser : GoodIn wsX10_rankOf wsX10_isLesser := goodIn_r _ [25, 26, 27, 28, 29, 4, 30, 31, 32, 33, 34, 35, 36, 37, 38] (by decide +kernel) (by decide +kernel)
set_option maxRecDepth 20000 in
theorem gX10_rankOf_X10_isLesser : GoodIn wsX10_rankOf (wsV RX10 263 RX10 yX10_isLesser wsX10_isLesser) := goodIn_app (goodIn_of _ (by decide +kernel)) ggX10_rankOf_X10_isLesser
theorem dX10_rankOf_0 : decode cX10_rankOf 0 = .ok (.iconst 0, 1) := by decide +kernel
theorem dX10_rankOf_1 : decode cX10_rankOf 1 = .ok (.istore_n 3, 1) := by decide +kernel
theorem dX10_rankOf_2 : decode cX10_rankOf 2 = .ok (.iconst 0, 1) := by decide +kernel
theorem dX10_rankOf_3 : decode cX10_rankOf 3 = .ok (.istore 4, 2) := by decide +kernel
theorem dX10_rankOf_5 : decode cX10_rankOf 5 = .ok (.iload 4, 2) := by decide +kernel
theorem dX10_rankOf_7 : decode cX10_rankOf 7 = .ok (.aload_n 0, 1) := by decide +kernel
theorem dX10_rankOf_8 : decode cX10_rankOf 8 = .ok (.invokevirtual 82, 3) := by decide +kernel
theorem dX10_rankOf_11 : decode cX10_rankOf 11 = .ok (.if_icmp .ge 47, 3) := by decide +kernel
theorem dX10_rankOf_14 : decode cX10_rankOf 14 = .ok (.aload_n 0, 1) := by decide +kernel
theorem dX10_rankOf_15 : decode cX10_rankOf 15 = .ok (.iload_n 1, 1) := by decide +kernel
theorem dX10_rankOf_16 : decode cX10_rankOf 16 = .ok (.iload 4, 2) := by decide +kernel
theorem dX10_rankOf_18 : decode cX10_rankOf 18 = .ok (.invokevirtual 260, 3) := by decide +kernel
theorem dX10_rankOf_21 : decode cX10_rankOf 21 = .ok (.ifCond .eq 31, 3) := by decide +kernel
theorem dX10_rankOf_24 : decode cX10_rankOf 24 = .ok (.aload_n 0, 1) := by decide +kernel
theorem dX10_rankOf_25 : decode cX10_rankOf 25 = .ok (.aload_n 0, 1) := by decide +kernel
theorem dX10_rankOf_26 : decode cX10_rankOf 26 = .ok (.iload_n 1, 1) := by decide +kernel
theorem dX10_rankOf_27 : decode cX10_rankOf 27 = .ok (.invokevirtual 89, 3) := by decide +kernel
theorem dX10_rankOf_30 : decode cX10_rankOf 30 = .ok (.aload_n 0, 1) := by decide +kernel
theorem dX10_rankOf_31 : decode cX10_rankOf 31 = .ok (.iload_n 1, 1) := by decide +kernel
theorem dX10_rankOf_32 : decode cX10_rankOf 32 = .ok (.iload 4, 2) := by decide +kernel
theorem dX10_rankOf_34 : decode cX10_rankOf 34 = .ok (.invokevirtual 234, 3) := by decide +kernel
theorem dX10_rankOf_37 : decode cX10_rankOf 37 = .ok (.aload_n 0, 1) := by decide +kernel
theorem dX10_rankOf_38 : decode cX10_rankOf 38 = .ok (.iload_n 1, 1) := by decide +kernel
theorem dX10_rankOf_39 : decode cX10_rankOf 39 = .ok (.iload_n 2, 1) := by decide +kernel
theorem dX10_rankOf_40 : decode cX10_rankOf 40 = .ok (.invokevirtual 234, 3) := by decide +kernel
theorem dX10_rankOf_43 : decode cX10_rankOf 43 = .ok (.invokevirtual 263, 3) := by decide +kernel
theorem dX10_rankOf_46 : decode cX10_rankOf 46 = .ok (.ifCond .eq 6, 3) := by decide +kernel
theorem dX10_rankOf_49 : decode cX10_rankOf 49 = .ok (.iinc 3 1, 3) := by decide +kernel
theorem dX10_rankOf_52 : decode cX10_rankOf 52 = .ok (.iinc 4 1, 3) := by decide +kernel
theorem dX10_rankOf_55 : decode cX10_rankOf 55 = .ok (.goto (-50), 3) := by decide +kernel
theorem dX10_rankOf_58 : decode cX10_rankOf 58 = .ok (.iload_n 3, 1) := by decide +kernel
theorem dX10_rankOf_59 : decode cX10_rankOf 59 = .ok (.ireturn, 1) := by decide +kernel
set_option maxRecDepth 20000 in
theorem ggX10_layRanks_X10_columns : GoodIn wsX10_layRanks wsX10_columns := goodIn_r _ [9, 10, 62, 63, 64, 65, 66, 67, 68, 69, 70, 71, 72, 73, 74, 75, 76, 77, 78, 79, 80, 81, 82, 83, 84, 85, 86, 87] (by decide +kernel) (by decide +kernel)
set_option maxRecDepth 20000 in
theorem gX10_layRanks_X10_columns : GoodIn wsX10_layRanks (wsV RX10 74 RX10 yX10_columns wsX10_columns) := goodIn_app (goodIn_of _ (by decide +kernel)) ggX10_layRanks_X10_columns
set_option maxRecDepth 20000 in
theorem ggX10_layRanks_X10_isProper : GoodIn wsX10_layRanks wsX10_isProper := goodIn_r _ [14, 15, 16, 17, 8, 18, 5, 6, 7, 9, 10, 19, 20, 21, 22, 23, 24, 25, 62, 63, 64, 65, 66, 67, 68, 69, 70, 71, 72, 73, 74, 75, 76, 77, 78, 79, 80, 81, 82, 83, 84, 85, 86, 87] (by decide +kernel) (by decide +kernel)
set_option maxRecDepth 20000 in
theorem gX10_layRanks_X10_isProper : GoodIn wsX10_layRanks (wsV RX10 270 RX10 yX10_isProper wsX10_isProper) := goodIn_app (goodIn_of _ (by decide +kernel)) ggX10_layRanks_X10_isProper
set_option maxRecDepth 20000 in
theorem ggX10_layRanks_X10_rows : GoodIn wsX10_layRanks wsX10_rows := goodIn_r _ [29, 10, 62, 63, 64, 65, 66, 67, 68, 69, 70, 71, 72, 73, 74, 75, 76, 77, 78, 79, 80, 81, 82, 83, 84, 85, 86, 87] (by decide +kernel) (by decide +kernel)
set_option maxRecDepth 20000 in
theorem gX10_layRanks_X10_rows : GoodIn wsX10_layRanks (wsV RX10 82 RX10 yX10_rows wsX10_rows) := goodIn_app (goodIn_of _ (by decide +kernel)) ggX10_layRanks_X10_rows
set_option maxRecDepth 20000 in
theorem ggX10_layRanks_X10_rankOf : GoodIn wsX10_layRanks wsX10_rankOf := goodIn_r _ [33, 26, 27, 28, 8, 29, 10, 34, 35, 36, 37, 38, 39, 40, 41, 42, 43, 44, 22, 23, 24, 25, 45, 46, 47, 48, 49, 50, 51, 52, 53, 54, 55, 56, 57, 58, 59, 60, 61, 62, 63, 64, 65, 66, 67, 68, 69, 70, 71, 72, 73, 74, 75, 76, 77, 78, 79, 80, 81, 82, 83, 84, 85, 86, 87] (by decide +kernel) (by decide +kernel)
set_option maxRecDepth 20000 in
theorem gX10_layRanks_X10_rankOf : GoodIn wsX10_layRanks (wsV RX10 273 RX10 yX10_rankOf wsX10_rankOf) := goodIn_app (goodIn_of _ (by decide +kernel)) ggX10_layRanks_X10_rankOf
set_option maxRecDepth 20000 in
theorem ggX10_layRanks_X10_isFirst : GoodIn wsX10_layRanks wsX10_isFirst := goodIn_r _ [37, 38, 39, 40, 8, 41, 10, 42, 43, 44, 62, 63, 64, 65, 66, 67, 68, 69, 70, 71, 72, 73, 74, 75, 76, 77, 78, 79, 80, 81, 82, 83, 84, 85, 86, 87] (by decide +kernel) (by decide +kernel)
set_option maxRecDepth 20000 in
theorem gX10_layRanks_X10_isFirst : GoodIn wsX10_layRanks (wsV RX10 260 RX10 yX10_isFirst wsX10_isFirst) := goodIn_app (goodIn_of _ (by decide +kernel)) ggX10_layRanks_X10_isFirst
theorem dX10_layRanks_0 : decode cX10_layRanks 0 = .ok (.aload_n 0, 1) := by decide +kernel
theorem dX10_layRanks_1 : decode cX10_layRanks 1 = .ok (.iconst 0, 1) := by decide +kernel
theorem dX10_layRanks_2 : decode cX10_layRanks 2 = .ok (.putfield 267, 3) := by decide +kernel
theorem dX10_layRanks_5 : decode cX10_layRanks 5 = .ok (.iconst 0, 1) := by decide +kernel
theorem dX10_layRanks_6 : decode cX10_layRanks 6 = .ok (.istore_n 1, 1) := by decide +kernel
theorem dX10_layRanks_7 : decode cX10_layRanks 7 = .ok (.iload_n 1, 1) := by decide +kernel
theorem dX10_layRanks_8 : decode cX10_layRanks 8 = .ok (.aload_n 0, 1) := by decide +kernel
theorem dX10_layRanks_9 : decode cX10_layRanks 9 = .ok (.invokevirtual 74, 3) := by decide +kernel
theorem dX10_layRanks_12 : decode cX10_layRanks 12 = .ok (.if_icmp .ge 103, 3) := by decide +kernel
theorem dX10_layRanks_15 : decode cX10_layRanks 15 = .ok (.aload_n 0, 1) := by decide +kernel
theorem dX10_layRanks_16 : decode cX10_layRanks 16 = .ok (.iload_n 1, 1) := by decide +kernel
theorem dX10_layRanks_17 : decode cX10_layRanks 17 = .ok (.invokevirtual 270, 3) := by decide +kernel
theorem dX10_layRanks_20 : decode cX10_layRanks 20 = .ok (.ifCond .ne 6, 3) := by decide +kernel
theorem dX10_layRanks_23 : decode cX10_layRanks 23 = .ok (.goto 86, 3) := by decide +kernel
theorem dX10_layRanks_26 : decode cX10_layRanks 26 = .ok (.aload_n 0, 1) := by decide +kernel
theorem dX10_layRanks_27 : decode cX10_layRanks 27 = .ok (.getfield 32, 3) := by decide +kernel
theorem dX10_layRanks_30 : decode cX10_layRanks 30 = .ok (.aload_n 0, 1) := by decide +kernel
theorem dX10_layRanks_31 : decode cX10_layRanks 31 = .ok (.getfield 267, 3) := by decide +kernel
theorem dX10_layRanks_34 : decode cX10_layRanks 34 = .ok (.iload_n 1, 1) := by decide +kernel
theorem dX10_layRanks_35 : decode cX10_layRanks 35 = .ok (.iastore, 1) := by decide +kernel
theorem dX10_layRanks_36 : decode cX10_layRanks 36 = .ok (.aload_n 0, 1) := by decide +kernel
theorem dX10_layRanks_37 : decode cX10_layRanks 37 = .ok (.dup, 1) := by decide +kernel
theorem dX10_layRanks_38 : decode cX10_layRanks 38 = .ok (.getfield 267, 3) := by decide +kernel
theorem dX10_layRanks_41 : decode cX10_layRanks 41 = .ok (.iconst 1, 1) := by decide +kernel
theorem dX10_layRanks_42 : decode cX10_layRanks 42 = .ok (.iadd, 1) := by decide +kernel
theorem dX10_layRanks_43 : decode cX10_layRanks 43 = .ok (.putfield 267, 3) := by decide +kernel
theorem dX10_layRanks_46 : decode cX10_layRanks 46 = .ok (.aload_n 0, 1) := by decide +kernel
theorem dX10_layRanks_47 : decode cX10_layRanks 47 = .ok (.getfield 29, 3) := by decide +kernel
theorem dX10_layRanks_50 : decode cX10_layRanks 50 = .ok (.iload_n 1, 1) := by decide +kernel
theorem dX10_layRanks_51 : decode cX10_layRanks 51 = .ok (.iconst 0, 1) := by decide +kernel
theorem dX10_layRanks_52 : decode cX10_layRanks 52 = .ok (.iastore, 1) := by decide +kernel
theorem dX10_layRanks_53 : decode cX10_layRanks 53 = .ok (.iconst 0, 1) := by decide +kernel
theorem dX10_layRanks_54 : decode cX10_layRanks 54 = .ok (.istore_n 2, 1) := by decide +kernel
theorem dX10_layRanks_55 : decode cX10_layRanks 55 = .ok (.iload_n 2, 1) := by decide +kernel
theorem dX10_layRanks_56 : decode cX10_layRanks 56 = .ok (.aload_n 0, 1) := by decide +kernel
theorem dX10_layRanks_57 : decode cX10_layRanks 57 = .ok (.invokevirtual 82, 3) := by decide +kernel
theorem dX10_layRanks_60 : decode cX10_layRanks 60 = .ok (.if_icmp .ge 49, 3) := by decide +kernel
theorem dX10_layRanks_63 : decode cX10_layRanks 63 = .ok (.aload_n 0, 1) := by decide +kernel
theorem dX10_layRanks_64 : decode cX10_layRanks 64 = .ok (.getfield 26, 3) := by decide +kernel
theorem dX10_layRanks_67 : decode cX10_layRanks 67 = .ok (.bipush 16, 2) := by decide +kernel
theorem dX10_layRanks_69 : decode cX10_layRanks 69 = .ok (.iload_n 1, 1) := by decide +kernel
theorem dX10_layRanks_70 : decode cX10_layRanks 70 = .ok (.imul, 1) := by decide +kernel
theorem dX10_layRanks_71 : decode cX10_layRanks 71 = .ok (.iload_n 2, 1) := by decide +kernel
theorem dX10_layRanks_72 : decode cX10_layRanks 72 = .ok (.iadd, 1) := by decide +kernel
theorem dX10_layRanks_73 : decode cX10_layRanks 73 = .ok (.aload_n 0, 1) := by decide +kernel
theorem dX10_layRanks_74 : decode cX10_layRanks 74 = .ok (.iload_n 1, 1) := by decide +kernel
theorem dX10_layRanks_75 : decode cX10_layRanks 75 = .ok (.iload_n 2, 1) := by decide +kernel
theorem dX10_layRanks_76 : decode cX10_layRanks 76 = .ok (.invokevirtual 273, 3) := by decide +kernel
theorem dX10_layRanks_79 : decode cX10_layRanks 79 = .ok (.iastore, 1) := by decide +kernel
theorem dX10_layRanks_80 : decode cX10_layRanks 80 = .ok (.aload_n 0, 1) := by decide +kernel
theorem dX10_layRanks_81 : decode cX10_layRanks 81 = .ok (.getfield 29, 3) := by decide +kernel
theorem dX10_layRanks_84 : decode cX10_layRanks 84 = .ok (.iload_n 1, 1) := by decide +kernel
theorem dX10_layRanks_85 : decode cX10_layRanks 85 = .ok (.dup2, 1) := by decide +kernel
theorem dX10_layRanks_86 : decode cX10_layRanks 86 = .ok (.iaload, 1) := by decide +kernel
theorem dX10_layRanks_87 : decode cX10_layRanks 87 = .ok (.aload_n 0, 1) := by decide +kernel
theorem dX10_layRanks_88 : decode cX10_layRanks 88 = .ok (.iload_n 1, 1) := by decide +kernel
theorem dX10_layRanks_89 : decode cX10_layRanks 89 = .ok (.iload_n 2, 1) := by decide +kernel
theorem dX10_layRanks_90 : decode cX10_layRanks 90 = .ok (.invokevirtual 260, 3) := by decide +kernel
theorem dX10_layRanks_93 : decode cX10_layRanks 93 = .ok (.ifCond .eq 7, 3) := by decide +kernel
theorem dX10_layRanks_96 : decode cX10_layRanks 96 = .ok (.iconst 1, 1) := by decide +kernel
theorem dX10_layRanks_97 : decode cX10_layRanks 97 = .ok (.goto 4, 3) := by decide +kernel
theorem dX10_layRanks_100 : decode cX10_layRanks 100 = .ok (.iconst 0, 1) := by decide +kernel
theorem dX10_layRanks_101 : decode cX10_layRanks 101 = .ok (.iadd, 1) := by decide +kernel
theorem dX10_layRanks_102 : decode cX10_layRanks 102 = .ok (.iastore, 1) := by decide +kernel
theorem dX10_layRanks_103 : decode cX10_layRanks 103 = .ok (.iinc 2 1, 3) := by decide +kernel
theorem dX10_layRanks_106 : decode cX10_layRanks 106 = .ok (.goto (-51), 3) := by decide +kernel
theorem dX10_layRanks_109 : decode cX10_layRanks 109 = .ok (.iinc 1 1, 3) := by decide +kernel
theorem dX10_layRanks_112 : decode cX10_layRanks 112 = .ok (.goto (-105), 3) := by decide +kernel
theorem dX10_layRanks_115 : decode cX10_layRanks 115 = .ok (.return_, 1) := by decide +kernel
set_option maxRecDepth 20000 in
theorem ggX10_layLine_X10_rows : GoodIn wsX10_layLine wsX10_rows := goodIn_r _ [6, 7, 67, 68, 69, 70, 71, 72, 73, 74, 75, 76, 77, 78, 79, 80, 81, 82, 83, 84, 85, 86, 87, 88, 89, 90, 91, 92] (by decide +kernel) (by decide +kernel)
set_option maxRecDepth 20000 in
theorem gX10_layLine_X10_rows : GoodIn wsX10_layLine (wsV RX10 82 RX10 yX10_rows wsX10_rows) := goodIn_app (goodIn_of _ (by decide +kernel)) ggX10_layLine_X10_rows
set_option maxRecDepth 20000 in
theorem ggX10_layLine_X10_layRanks : GoodIn wsX10_layLine wsX10_layRanks := goodIn_r _ [11, 12, 13, 14, 15, 16, 17, 18, 5, 19, 7, 20, 21, 22, 23, 24, 25, 26, 27, 28, 29, 30, 31, 32, 33, 34, 2, 3, 4, 6, 35, 36, 37, 38, 39, 40, 41, 42, 43, 44, 45, 46, 47, 48, 49, 50, 51, 52, 53, 54, 55, 56, 57, 58, 59, 60, 61, 62, 63, 64, 65, 66, 67, 68, 69, 70, 71, 72, 73, 74, 75, 76, 77, 78, 79, 80, 81, 82, 83, 84, 85, 86, 87, 88, 89, 90, 91, 92] (by decide +kernel) (by decide +kernel)
set_option maxRecDepth 20000 in
theorem gX10_layLine_X10_layRanks : GoodIn wsX10_layLine (wsV RX10 276 RX10 yX10_layRanks wsX10_layRanks) := goodIn_app (goodIn_of _ (by decide +kernel)) ggX10_layLine_X10_layRanks
theorem dX10_layLine_0 : decode cX10_layLine 0 = .ok (.iconst 0, 1) := by decide +kernel
theorem dX10_layLine_1 : decode cX10_layLine 1 = .ok (.istore_n 1, 1) := by decide +kernel
theorem dX10_layLine_2 : decode cX10_layLine 2 = .ok (.iload_n 1, 1) := by decide +kernel
theorem dX10_layLine_3 : decode cX10_layLine 3 = .ok (.aload_n 0, 1) := by decide +kernel
theorem dX10_layLine_4 : decode cX10_layLine 4 = .ok (.invokevirtual 82, 3) := by decide +kernel
theorem dX10_layLine_7 : decode cX10_layLine 7 = .ok (.if_icmp .ge 16, 3) := by decide +kernel
theorem dX10_layLine_10 : decode cX10_layLine 10 = .ok (.aload_n 0, 1) := by decide +kernel
theorem dX10_layLine_11 : decode cX10_layLine 11 = .ok (.getfield 35, 3) := by decide +kernel
theorem dX10_layLine_14 : decode cX10_layLine 14 = .ok (.iload_n 1, 1) := by decide +kernel
theorem dX10_layLine_15 : decode cX10_layLine 15 = .ok (.iload_n 1, 1) := by decide +kernel
theorem dX10_layLine_16 : decode cX10_layLine 16 = .ok (.iastore, 1) := by decide +kernel
theorem dX10_layLine_17 : decode cX10_layLine 17 = .ok (.iinc 1 1, 3) := by decide +kernel
theorem dX10_layLine_20 : decode cX10_layLine 20 = .ok (.goto (-18), 3) := by decide +kernel
theorem dX10_layLine_23 : decode cX10_layLine 23 = .ok (.aload_n 0, 1) := by decide +kernel
theorem dX10_layLine_24 : decode cX10_layLine 24 = .ok (.invokevirtual 276, 3) := by decide +kernel
theorem dX10_layLine_27 : decode cX10_layLine 27 = .ok (.return_, 1) := by decide +kernel
set_option maxRecDepth 20000 in
theorem ggX10_runsIn_X10_rows : GoodIn wsX10_runsIn wsX10_rows := goodIn_r _ [7, 8, 9, 10, 11, 12, 13, 14, 15, 16, 17, 18, 19, 20, 21, 22, 23, 24, 25, 26, 27, 28, 29, 30, 31, 32, 33, 34] (by decide +kernel) (by decide +kernel)
set_option maxRecDepth 20000 in
theorem gX10_runsIn_X10_rows : GoodIn wsX10_runsIn (wsV RX10 82 RX10 yX10_rows wsX10_rows) := goodIn_app (goodIn_of _ (by decide +kernel)) ggX10_runsIn_X10_rows
theorem dX10_runsIn_0 : decode cX10_runsIn 0 = .ok (.iconst 0, 1) := by decide +kernel
theorem dX10_runsIn_1 : decode cX10_runsIn 1 = .ok (.istore_n 2, 1) := by decide +kernel
theorem dX10_runsIn_2 : decode cX10_runsIn 2 = .ok (.iconst 0, 1) := by decide +kernel
theorem dX10_runsIn_3 : decode cX10_runsIn 3 = .ok (.istore_n 3, 1) := by decide +kernel
theorem dX10_runsIn_4 : decode cX10_runsIn 4 = .ok (.iload_n 3, 1) := by decide +kernel
theorem dX10_runsIn_5 : decode cX10_runsIn 5 = .ok (.aload_n 0, 1) := by decide +kernel
theorem dX10_runsIn_6 : decode cX10_runsIn 6 = .ok (.invokevirtual 82, 3) := by decide +kernel
theorem dX10_runsIn_9 : decode cX10_runsIn 9 = .ok (.if_icmp .ge 58, 3) := by decide +kernel
theorem dX10_runsIn_12 : decode cX10_runsIn 12 = .ok (.iload_n 2, 1) := by decide +kernel
theorem dX10_runsIn_13 : decode cX10_runsIn 13 = .ok (.iload_n 3, 1) := by decide +kernel
theorem dX10_runsIn_14 : decode cX10_runsIn 14 = .ok (.ifCond .eq 40, 3) := by decide +kernel
theorem dX10_runsIn_17 : decode cX10_runsIn 17 = .ok (.aload_n 0, 1) := by decide +kernel
theorem dX10_runsIn_18 : decode cX10_runsIn 18 = .ok (.getfield 26, 3) := by decide +kernel
theorem dX10_runsIn_21 : decode cX10_runsIn 21 = .ok (.bipush 16, 2) := by decide +kernel
theorem dX10_runsIn_23 : decode cX10_runsIn 23 = .ok (.iload_n 1, 1) := by decide +kernel
theorem dX10_runsIn_24 : decode cX10_runsIn 24 = .ok (.imul, 1) := by decide +kernel
theorem dX10_runsIn_25 : decode cX10_runsIn 25 = .ok (.aload_n 0, 1) := by decide +kernel
theorem dX10_runsIn_26 : decode cX10_runsIn 26 = .ok (.getfield 35, 3) := by decide +kernel
theorem dX10_runsIn_29 : decode cX10_runsIn 29 = .ok (.iload_n 3, 1) := by decide +kernel
theorem dX10_runsIn_30 : decode cX10_runsIn 30 = .ok (.iaload, 1) := by decide +kernel
theorem dX10_runsIn_31 : decode cX10_runsIn 31 = .ok (.iadd, 1) := by decide +kernel
theorem dX10_runsIn_32 : decode cX10_runsIn 32 = .ok (.iaload, 1) := by decide +kernel
theorem dX10_runsIn_33 : decode cX10_runsIn 33 = .ok (.aload_n 0, 1) := by decide +kernel
theorem dX10_runsIn_34 : decode cX10_runsIn 34 = .ok (.getfield 26, 3) := by decide +kernel
theorem dX10_runsIn_37 : decode cX10_runsIn 37 = .ok (.bipush 16, 2) := by decide +kernel
theorem dX10_runsIn_39 : decode cX10_runsIn 39 = .ok (.iload_n 1, 1) := by decide +kernel
theorem dX10_runsIn_40 : decode cX10_runsIn 40 = .ok (.imul, 1) := by decide +kernel
theorem dX10_runsIn_41 : decode cX10_runsIn 41 = .ok (.aload_n 0, 1) := by decide +kernel
theorem dX10_runsIn_42 : decode cX10_runsIn 42 = .ok (.getfield 35, 3) := by decide +kernel
theorem dX10_runsIn_45 : decode cX10_runsIn 45 = .ok (.iload_n 3, 1) := by decide +kernel
theorem dX10_runsIn_46 : decode cX10_runsIn 46 = .ok (.iconst 1, 1) := by decide +kernel
theorem dX10_runsIn_47 : decode cX10_runsIn 47 = .ok (.isub, 1) := by decide +kernel
theorem dX10_runsIn_48 : decode cX10_runsIn 48 = .ok (.iaload, 1) := by decide +kernel
theorem dX10_runsIn_49 : decode cX10_runsIn 49 = .ok (.iadd, 1) := by decide +kernel
theorem dX10_runsIn_50 : decode cX10_runsIn 50 = .ok (.iaload, 1) := by decide +kernel
theorem dX10_runsIn_51 : decode cX10_runsIn 51 = .ok (.if_icmp .eq 7, 3) := by decide +kernel
theorem dX10_runsIn_54 : decode cX10_runsIn 54 = .ok (.iconst 1, 1) := by decide +kernel
theorem dX10_runsIn_55 : decode cX10_runsIn 55 = .ok (.goto 4, 3) := by decide +kernel
theorem dX10_runsIn_58 : decode cX10_runsIn 58 = .ok (.iconst 0, 1) := by decide +kernel
theorem dX10_runsIn_59 : decode cX10_runsIn 59 = .ok (.iadd, 1) := by decide +kernel
theorem dX10_runsIn_60 : decode cX10_runsIn 60 = .ok (.istore_n 2, 1) := by decide +kernel
theorem dX10_runsIn_61 : decode cX10_runsIn 61 = .ok (.iinc 3 1, 3) := by decide +kernel
theorem dX10_runsIn_64 : decode cX10_runsIn 64 = .ok (.goto (-60), 3) := by decide +kernel
theorem dX10_runsIn_67 : decode cX10_runsIn 67 = .ok (.iload_n 2, 1) := by decide +kernel
theorem dX10_runsIn_68 : decode cX10_runsIn 68 = .ok (.ireturn, 1) := by decide +kernel
set_option maxRecDepth 20000 in
theorem ggX10_runsOfLine_X10_runsIn : GoodIn wsX10_runsOfLine wsX10_runsIn := goodIn_r _ [7, 8, 9, 10, 11, 12, 6, 13, 14, 15, 16, 17, 18, 19, 20, 21, 22, 23, 24, 25, 26, 27, 28, 29, 30, 31, 32, 33, 34, 35, 36, 37, 38, 39, 40] (by decide +kernel) (by decide +kernel)
set_option maxRecDepth 20000 in
theorem gX10_runsOfLine_X10_runsIn : GoodIn wsX10_runsOfLine (wsV RX10 279 RX10 yX10_runsIn wsX10_runsIn) := goodIn_app (goodIn_of _ (by decide +kernel)) ggX10_runsOfLine_X10_runsIn
theorem dX10_runsOfLine_0 : decode cX10_runsOfLine 0 = .ok (.iconst 0, 1) := by decide +kernel
theorem dX10_runsOfLine_1 : decode cX10_runsOfLine 1 = .ok (.istore_n 1, 1) := by decide +kernel
theorem dX10_runsOfLine_2 : decode cX10_runsOfLine 2 = .ok (.iconst 0, 1) := by decide +kernel
theorem dX10_runsOfLine_3 : decode cX10_runsOfLine 3 = .ok (.istore_n 2, 1) := by decide +kernel
theorem dX10_runsOfLine_4 : decode cX10_runsOfLine 4 = .ok (.iload_n 2, 1) := by decide +kernel
theorem dX10_runsOfLine_5 : decode cX10_runsOfLine 5 = .ok (.aload_n 0, 1) := by decide +kernel
theorem dX10_runsOfLine_6 : decode cX10_runsOfLine 6 = .ok (.getfield 267, 3) := by decide +kernel
theorem dX10_runsOfLine_9 : decode cX10_runsOfLine 9 = .ok (.if_icmp .ge 22, 3) := by decide +kernel
theorem dX10_runsOfLine_12 : decode cX10_runsOfLine 12 = .ok (.iload_n 1, 1) := by decide +kernel
theorem dX10_runsOfLine_13 : decode cX10_runsOfLine 13 = .ok (.aload_n 0, 1) := by decide +kernel
theorem dX10_runsOfLine_14 : decode cX10_runsOfLine 14 = .ok (.aload_n 0, 1) := by decide +kernel
theorem dX10_runsOfLine_15 : decode cX10_runsOfLine 15 = .ok (.getfield 32, 3) := by decide +kernel
theorem dX10_runsOfLine_18 : decode cX10_runsOfLine 18 = .ok (.iload_n 2, 1) := by decide +kernel
theorem dX10_runsOfLine_19 : decode cX10_runsOfLine 19 = .ok (.iaload, 1) := by decide +kernel
theorem dX10_runsOfLine_20 : decode cX10_runsOfLine 20 = .ok (.invokevirtual 279, 3) := by decide +kernel
theorem dX10_runsOfLine_23 : decode cX10_runsOfLine 23 = .ok (.iadd, 1) := by decide +kernel
theorem dX10_runsOfLine_24 : decode cX10_runsOfLine 24 = .ok (.istore_n 1, 1) := by decide +kernel
theorem dX10_runsOfLine_25 : decode cX10_runsOfLine 25 = .ok (.iinc 2 1, 3) := by decide +kernel
theorem dX10_runsOfLine_28 : decode cX10_runsOfLine 28 = .ok (.goto (-24), 3) := by decide +kernel
theorem dX10_runsOfLine_31 : decode cX10_runsOfLine 31 = .ok (.iload_n 1, 1) := by decide +kernel
theorem dX10_runsOfLine_32 : decode cX10_runsOfLine 32 = .ok (.ireturn, 1) := by decide +kernel
set_option maxRecDepth 20000 in
theorem ggX10_runsNow_X10_layLine : GoodIn wsX10_runsNow wsX10_layLine := goodIn_r _ [5, 6, 7, 8, 9, 4, 10, 11, 12, 13, 14, 15, 16, 17, 18, 19, 20, 21, 22, 23, 24, 25, 26, 27, 28, 29, 30, 31, 32, 33, 34, 35, 36, 37, 38, 39, 40, 41, 42, 43, 44, 45, 46, 47, 48, 49, 50, 51, 52, 53, 54, 55, 56, 57, 58, 59, 60, 61, 62, 63, 64, 65, 66, 67, 68, 69, 70, 79, 80, 81, 82, 83, 84, 85, 86, 87, 88, 89, 90, 91, 92, 93, 94, 95, 96, 97, 98, 99, 100, 101, 102, 103, 104] (by decide +kernel) (by decide +kernel)
set_option maxRecDepth 20000 in
theorem gX10_runsNow_X10_layLine : GoodIn wsX10_runsNow (wsV RX10 282 RX10 yX10_layLine wsX10_layLine) := goodIn_app (goodIn_of _ (by decide +kernel)) ggX10_runsNow_X10_layLine
set_option maxRecDepth 20000 in
theorem ggX10_runsNow_X10_runsOfLine : GoodIn wsX10_runsNow wsX10_runsOfLine := goodIn_r _ [74, 16, 17, 75, 76, 77, 4, 78, 19, 6, 7, 8, 9, 10, 11, 79, 80, 81, 82, 83, 84, 85, 86, 87, 88, 89, 90, 91, 92, 93, 94, 95, 96, 97, 98, 99, 100, 101, 102, 103, 104] (by decide +kernel) (by decide +kernel)
set_option maxRecDepth 20000 in
theorem gX10_runsNow_X10_runsOfLine : GoodIn wsX10_runsNow (wsV RX10 285 RX10 yX10_runsOfLine wsX10_runsOfLine) := goodIn_app (goodIn_of _ (by decide +kernel)) ggX10_runsNow_X10_runsOfLine
theorem dX10_runsNow_0 : decode cX10_runsNow 0 = .ok (.aload_n 0, 1) := by decide +kernel
theorem dX10_runsNow_1 : decode cX10_runsNow 1 = .ok (.invokevirtual 282, 3) := by decide +kernel
theorem dX10_runsNow_4 : decode cX10_runsNow 4 = .ok (.aload_n 0, 1) := by decide +kernel
theorem dX10_runsNow_5 : decode cX10_runsNow 5 = .ok (.invokevirtual 285, 3) := by decide +kernel
theorem dX10_runsNow_8 : decode cX10_runsNow 8 = .ok (.ireturn, 1) := by decide +kernel
theorem dX10_unlikeOf_0 : decode cX10_unlikeOf 0 = .ok (.iconst 0, 1) := by decide +kernel
theorem dX10_unlikeOf_1 : decode cX10_unlikeOf 1 = .ok (.istore_n 3, 1) := by decide +kernel
theorem dX10_unlikeOf_2 : decode cX10_unlikeOf 2 = .ok (.iconst 0, 1) := by decide +kernel
theorem dX10_unlikeOf_3 : decode cX10_unlikeOf 3 = .ok (.istore 4, 2) := by decide +kernel
theorem dX10_unlikeOf_5 : decode cX10_unlikeOf 5 = .ok (.iload 4, 2) := by decide +kernel
theorem dX10_unlikeOf_7 : decode cX10_unlikeOf 7 = .ok (.aload_n 0, 1) := by decide +kernel
theorem dX10_unlikeOf_8 : decode cX10_unlikeOf 8 = .ok (.getfield 267, 3) := by decide +kernel
theorem dX10_unlikeOf_11 : decode cX10_unlikeOf 11 = .ok (.if_icmp .ge 54, 3) := by decide +kernel
theorem dX10_unlikeOf_14 : decode cX10_unlikeOf 14 = .ok (.iload_n 3, 1) := by decide +kernel
theorem dX10_unlikeOf_15 : decode cX10_unlikeOf 15 = .ok (.aload_n 0, 1) := by decide +kernel
theorem dX10_unlikeOf_16 : decode cX10_unlikeOf 16 = .ok (.getfield 26, 3) := by decide +kernel
theorem dX10_unlikeOf_19 : decode cX10_unlikeOf 19 = .ok (.bipush 16, 2) := by decide +kernel
theorem dX10_unlikeOf_21 : decode cX10_unlikeOf 21 = .ok (.aload_n 0, 1) := by decide +kernel
theorem dX10_unlikeOf_22 : decode cX10_unlikeOf 22 = .ok (.getfield 32, 3) := by decide +kernel
theorem dX10_unlikeOf_25 : decode cX10_unlikeOf 25 = .ok (.iload 4, 2) := by decide +kernel
theorem dX10_unlikeOf_27 : decode cX10_unlikeOf 27 = .ok (.iaload, 1) := by decide +kernel
theorem dX10_unlikeOf_28 : decode cX10_unlikeOf 28 = .ok (.imul, 1) := by decide +kernel
theorem dX10_unlikeOf_29 : decode cX10_unlikeOf 29 = .ok (.iload_n 1, 1) := by decide +kernel
theorem dX10_unlikeOf_30 : decode cX10_unlikeOf 30 = .ok (.iadd, 1) := by decide +kernel
theorem dX10_unlikeOf_31 : decode cX10_unlikeOf 31 = .ok (.iaload, 1) := by decide +kernel
theorem dX10_unlikeOf_32 : decode cX10_unlikeOf 32 = .ok (.aload_n 0, 1) := by decide +kernel
theorem dX10_unlikeOf_33 : decode cX10_unlikeOf 33 = .ok (.getfield 26, 3) := by decide +kernel
theorem dX10_unlikeOf_36 : decode cX10_unlikeOf 36 = .ok (.bipush 16, 2) := by decide +kernel
theorem dX10_unlikeOf_38 : decode cX10_unlikeOf 38 = .ok (.aload_n 0, 1) := by decide +kernel
theorem dX10_unlikeOf_39 : decode cX10_unlikeOf 39 = .ok (.getfield 32, 3) := by decide +kernel
theorem dX10_unlikeOf_42 : decode cX10_unlikeOf 42 = .ok (.iload 4, 2) := by decide +kernel
theorem dX10_unlikeOf_44 : decode cX10_unlikeOf 44 = .ok (.iaload, 1) := by decide +kernel
theorem dX10_unlikeOf_45 : decode cX10_unlikeOf 45 = .ok (.imul, 1) := by decide +kernel
theorem dX10_unlikeOf_46 : decode cX10_unlikeOf 46 = .ok (.iload_n 2, 1) := by decide +kernel
theorem dX10_unlikeOf_47 : decode cX10_unlikeOf 47 = .ok (.iadd, 1) := by decide +kernel
theorem dX10_unlikeOf_48 : decode cX10_unlikeOf 48 = .ok (.iaload, 1) := by decide +kernel
theorem dX10_unlikeOf_49 : decode cX10_unlikeOf 49 = .ok (.if_icmp .eq 7, 3) := by decide +kernel
theorem dX10_unlikeOf_52 : decode cX10_unlikeOf 52 = .ok (.iconst 1, 1) := by decide +kernel
theorem dX10_unlikeOf_53 : decode cX10_unlikeOf 53 = .ok (.goto 4, 3) := by decide +kernel
theorem dX10_unlikeOf_56 : decode cX10_unlikeOf 56 = .ok (.iconst 0, 1) := by decide +kernel
theorem dX10_unlikeOf_57 : decode cX10_unlikeOf 57 = .ok (.iadd, 1) := by decide +kernel
theorem dX10_unlikeOf_58 : decode cX10_unlikeOf 58 = .ok (.istore_n 3, 1) := by decide +kernel
theorem dX10_unlikeOf_59 : decode cX10_unlikeOf 59 = .ok (.iinc 4 1, 3) := by decide +kernel
theorem dX10_unlikeOf_62 : decode cX10_unlikeOf 62 = .ok (.goto (-57), 3) := by decide +kernel
theorem dX10_unlikeOf_65 : decode cX10_unlikeOf 65 = .ok (.iload_n 3, 1) := by decide +kernel
theorem dX10_unlikeOf_66 : decode cX10_unlikeOf 66 = .ok (.ireturn, 1) := by decide +kernel
set_option maxRecDepth 20000 in
theorem ggX10_runs_X10_isColumn : GoodIn wsX10_runs wsX10_isColumn := goodIn_r _ [8, 9, 10, 11, 7, 12, 13, 14, 15, 16, 82, 83, 84, 85, 86, 87, 88, 89, 90, 91, 92, 93, 94, 95, 96, 97, 98, 99, 100, 101, 102, 103, 104, 105, 106, 107] (by decide +kernel) (by decide +kernel)
set_option maxRecDepth 20000 in
theorem gX10_runs_X10_isColumn : GoodIn wsX10_runs (wsV RX10 85 RX10 yX10_isColumn wsX10_isColumn) := goodIn_app (goodIn_of _ (by decide +kernel)) ggX10_runs_X10_isColumn
set_option maxRecDepth 20000 in
theorem ggX10_runs_X10_isProper : GoodIn wsX10_runs wsX10_isProper := goodIn_r _ [20, 4, 5, 6, 7, 8, 9, 10, 11, 12, 13, 14, 15, 16, 21, 22, 23, 24, 82, 83, 84, 85, 86, 87, 88, 89, 90, 91, 92, 93, 94, 95, 96, 97, 98, 99, 100, 101, 102, 103, 104, 105, 106, 107] (by decide +kernel) (by decide +kernel)
set_option maxRecDepth 20000 in
theorem gX10_runs_X10_isProper : GoodIn wsX10_runs (wsV RX10 270 RX10 yX10_isProper wsX10_isProper) := goodIn_app (goodIn_of _ (by decide +kernel)) ggX10_runs_X10_isProper
set_option maxRecDepth 20000 in
theorem ggX10_runs_X10_layLine : GoodIn wsX10_runs wsX10_layLine := goodIn_r _ [28, 29, 30, 31, 32, 7, 33, 13, 34, 35, 36, 37, 38, 39, 3, 40, 9, 10, 11, 12, 17, 18, 19, 20, 4, 5, 6, 8, 14, 15, 16, 21, 22, 23, 24, 41, 42, 43, 44, 45, 46, 47, 48, 49, 50, 51, 52, 53, 54, 55, 56, 57, 58, 59, 60, 61, 62, 63, 64, 65, 66, 67, 68, 69, 70, 71, 72, 82, 83, 84, 85, 86, 87, 88, 89, 90, 91, 92, 93, 94, 95, 96, 97, 98, 99, 100, 101, 102, 103, 104, 105, 106, 107] (by decide +kernel) (by decide +kernel)
set_option maxRecDepth 20000 in
theorem gX10_runs_X10_layLine : GoodIn wsX10_runs (wsV RX10 282 RX10 yX10_layLine wsX10_layLine) := goodIn_app (goodIn_of _ (by decide +kernel)) ggX10_runs_X10_layLine
set_option maxRecDepth 20000 in
theorem ggX10_runs_X10_rows : GoodIn wsX10_runs wsX10_rows := goodIn_r _ [33, 13, 82, 83, 84, 85, 86, 87, 88, 89, 90, 91, 92, 93, 94, 95, 96, 97, 98, 99, 100, 101, 102, 103, 104, 105, 106, 107] (by decide +kernel) (by decide +kernel)
set_option maxRecDepth 20000 in
theorem gX10_runs_X10_rows : GoodIn wsX10_runs (wsV RX10 82 RX10 yX10_rows wsX10_rows) := goodIn_app (goodIn_of _ (by decide +kernel)) ggX10_runs_X10_rows
set_option maxRecDepth 20000 in
theorem ggX10_runs_X10_cell : GoodIn wsX10_runs wsX10_cell := goodIn_r _ [52, 13, 53, 54, 7, 55, 82, 83, 84, 85, 86, 87, 88, 89, 90, 91, 92, 93, 94, 95, 96, 97, 98, 99, 100, 101, 102, 103, 104, 105, 106, 107] (by decide +kernel) (by decide +kernel)
set_option maxRecDepth 20000 in
theorem gX10_runs_X10_cell : GoodIn wsX10_runs (wsV RX10 234 RX10 yX10_cell wsX10_cell) := goodIn_app (goodIn_of _ (by decide +kernel)) ggX10_runs_X10_cell
set_option maxRecDepth 20000 in
theorem ggX10_runs_X10_tell : GoodIn wsX10_runs wsX10_tell := goodIn_r _ [76, 77, 2, 82, 83, 84, 85, 86, 87, 88, 89, 90, 91, 92, 93, 94, 95, 96, 97, 98, 99, 100, 101, 102, 103, 104, 105, 106, 107] (by decide +kernel) (by decide +kernel)
set_option maxRecDepth 20000 in
theorem gX10_runs_X10_tell : GoodIn wsX10_runs (wsV RX10 237 RX10 yX10_tell wsX10_tell) := goodIn_app (goodIn_of _ (by decide +kernel)) ggX10_runs_X10_tell
set_option maxRecDepth 20000 in
theorem ggX10_runs_X10_runsIn : GoodIn wsX10_runs wsX10_runsIn := goodIn_r _ [81, 40, 29, 30, 31, 32, 7, 33, 13, 82, 83, 84, 85, 86, 87, 88, 89, 90, 91, 92, 93, 94, 95, 96, 97, 98, 99, 100, 101, 102, 103, 104, 105, 106, 107] (by decide +kernel) (by decide +kernel)
set_option maxRecDepth 20000 in
theorem gX10_runs_X10_runsIn : GoodIn wsX10_runs (wsV RX10 279 RX10 yX10_runsIn wsX10_runsIn) := goodIn_app (goodIn_of _ (by decide +kernel)) ggX10_runs_X10_runsIn
theorem dX10_runs_0 : decode cX10_runs 0 = .ok (.aload_n 0, 1) := by decide +kernel
theorem dX10_runs_1 : decode cX10_runs 1 = .ok (.iconst 0, 1) := by decide +kernel
theorem dX10_runs_2 : decode cX10_runs 2 = .ok (.putfield 67, 3) := by decide +kernel
theorem dX10_runs_5 : decode cX10_runs 5 = .ok (.aload_n 0, 1) := by decide +kernel
theorem dX10_runs_6 : decode cX10_runs 6 = .ok (.iload_n 1, 1) := by decide +kernel
theorem dX10_runs_7 : decode cX10_runs 7 = .ok (.invokevirtual 85, 3) := by decide +kernel
theorem dX10_runs_10 : decode cX10_runs 10 = .ok (.ifCond .ne 5, 3) := by decide +kernel
theorem dX10_runs_13 : decode cX10_runs 13 = .ok (.iconst (-1), 1) := by decide +kernel
theorem dX10_runs_14 : decode cX10_runs 14 = .ok (.ireturn, 1) := by decide +kernel
theorem dX10_runs_15 : decode cX10_runs 15 = .ok (.aload_n 0, 1) := by decide +kernel
theorem dX10_runs_16 : decode cX10_runs 16 = .ok (.iload_n 1, 1) := by decide +kernel
theorem dX10_runs_17 : decode cX10_runs 17 = .ok (.invokevirtual 270, 3) := by decide +kernel
theorem dX10_runs_20 : decode cX10_runs 20 = .ok (.ifCond .ne 6, 3) := by decide +kernel
theorem dX10_runs_23 : decode cX10_runs 23 = .ok (.bipush (-2), 2) := by decide +kernel
theorem dX10_runs_25 : decode cX10_runs 25 = .ok (.ireturn, 1) := by decide +kernel
theorem dX10_runs_26 : decode cX10_runs 26 = .ok (.aload_n 0, 1) := by decide +kernel
theorem dX10_runs_27 : decode cX10_runs 27 = .ok (.invokevirtual 282, 3) := by decide +kernel
theorem dX10_runs_30 : decode cX10_runs 30 = .ok (.iconst 0, 1) := by decide +kernel
theorem dX10_runs_31 : decode cX10_runs 31 = .ok (.istore_n 2, 1) := by decide +kernel
theorem dX10_runs_32 : decode cX10_runs 32 = .ok (.iconst (-1), 1) := by decide +kernel
theorem dX10_runs_33 : decode cX10_runs 33 = .ok (.istore_n 3, 1) := by decide +kernel
theorem dX10_runs_34 : decode cX10_runs 34 = .ok (.iconst 0, 1) := by decide +kernel
theorem dX10_runs_35 : decode cX10_runs 35 = .ok (.istore 4, 2) := by decide +kernel
theorem dX10_runs_37 : decode cX10_runs 37 = .ok (.iconst 0, 1) := by decide +kernel
theorem dX10_runs_38 : decode cX10_runs 38 = .ok (.istore 5, 2) := by decide +kernel
theorem dX10_runs_40 : decode cX10_runs 40 = .ok (.iload 5, 2) := by decide +kernel
theorem dX10_runs_42 : decode cX10_runs 42 = .ok (.aload_n 0, 1) := by decide +kernel
theorem dX10_runs_43 : decode cX10_runs 43 = .ok (.invokevirtual 82, 3) := by decide +kernel
theorem dX10_runs_46 : decode cX10_runs 46 = .ok (.if_icmp .ge 64, 3) := by decide +kernel
theorem dX10_runs_49 : decode cX10_runs 49 = .ok (.iload 5, 2) := by decide +kernel
theorem dX10_runs_51 : decode cX10_runs 51 = .ok (.ifCond .le 30, 3) := by decide +kernel
theorem dX10_runs_54 : decode cX10_runs 54 = .ok (.aload_n 0, 1) := by decide +kernel
theorem dX10_runs_55 : decode cX10_runs 55 = .ok (.iload_n 1, 1) := by decide +kernel
theorem dX10_runs_56 : decode cX10_runs 56 = .ok (.iload 5, 2) := by decide +kernel
theorem dX10_runs_58 : decode cX10_runs 58 = .ok (.invokevirtual 234, 3) := by decide +kernel
theorem dX10_runs_61 : decode cX10_runs 61 = .ok (.aload_n 0, 1) := by decide +kernel
theorem dX10_runs_62 : decode cX10_runs 62 = .ok (.iload_n 1, 1) := by decide +kernel
theorem dX10_runs_63 : decode cX10_runs 63 = .ok (.iload 5, 2) := by decide +kernel
theorem dX10_runs_65 : decode cX10_runs 65 = .ok (.iconst 1, 1) := by decide +kernel
theorem dX10_runs_66 : decode cX10_runs 66 = .ok (.isub, 1) := by decide +kernel
theorem dX10_runs_67 : decode cX10_runs 67 = .ok (.invokevirtual 234, 3) := by decide +kernel
theorem dX10_runs_70 : decode cX10_runs 70 = .ok (.lcmp, 1) := by decide +kernel
theorem dX10_runs_71 : decode cX10_runs 71 = .ok (.ifCond .ne 10, 3) := by decide +kernel
theorem dX10_runs_74 : decode cX10_runs 74 = .ok (.iload 4, 2) := by decide +kernel
theorem dX10_runs_76 : decode cX10_runs 76 = .ok (.iconst 1, 1) := by decide +kernel
theorem dX10_runs_77 : decode cX10_runs 77 = .ok (.iadd, 1) := by decide +kernel
theorem dX10_runs_78 : decode cX10_runs 78 = .ok (.goto 4, 3) := by decide +kernel
theorem dX10_runs_81 : decode cX10_runs 81 = .ok (.iconst 1, 1) := by decide +kernel
theorem dX10_runs_82 : decode cX10_runs 82 = .ok (.istore 4, 2) := by decide +kernel
theorem dX10_runs_84 : decode cX10_runs 84 = .ok (.iload 4, 2) := by decide +kernel
theorem dX10_runs_86 : decode cX10_runs 86 = .ok (.iload_n 2, 1) := by decide +kernel
theorem dX10_runs_87 : decode cX10_runs 87 = .ok (.if_icmp .gt 6, 3) := by decide +kernel
theorem dX10_runs_90 : decode cX10_runs 90 = .ok (.goto 14, 3) := by decide +kernel
theorem dX10_runs_93 : decode cX10_runs 93 = .ok (.iload 4, 2) := by decide +kernel
theorem dX10_runs_95 : decode cX10_runs 95 = .ok (.istore_n 2, 1) := by decide +kernel
theorem dX10_runs_96 : decode cX10_runs 96 = .ok (.iload 5, 2) := by decide +kernel
theorem dX10_runs_98 : decode cX10_runs 98 = .ok (.iconst 1, 1) := by decide +kernel
theorem dX10_runs_99 : decode cX10_runs 99 = .ok (.iadd, 1) := by decide +kernel
theorem dX10_runs_100 : decode cX10_runs 100 = .ok (.iload 4, 2) := by decide +kernel
theorem dX10_runs_102 : decode cX10_runs 102 = .ok (.isub, 1) := by decide +kernel
theorem dX10_runs_103 : decode cX10_runs 103 = .ok (.istore_n 3, 1) := by decide +kernel
theorem dX10_runs_104 : decode cX10_runs 104 = .ok (.iinc 5 1, 3) := by decide +kernel
theorem dX10_runs_107 : decode cX10_runs 107 = .ok (.goto (-67), 3) := by decide +kernel
theorem dX10_runs_110 : decode cX10_runs 110 = .ok (.aload_n 0, 1) := by decide +kernel
theorem dX10_runs_111 : decode cX10_runs 111 = .ok (.iconst 0, 1) := by decide +kernel
theorem dX10_runs_112 : decode cX10_runs 112 = .ok (.putfield 71, 3) := by decide +kernel
theorem dX10_runs_115 : decode cX10_runs 115 = .ok (.aload_n 0, 1) := by decide +kernel
theorem dX10_runs_116 : decode cX10_runs 116 = .ok (.aload_n 0, 1) := by decide +kernel
theorem dX10_runs_117 : decode cX10_runs 117 = .ok (.getfield 29, 3) := by decide +kernel
theorem dX10_runs_120 : decode cX10_runs 120 = .ok (.iload_n 1, 1) := by decide +kernel
theorem dX10_runs_121 : decode cX10_runs 121 = .ok (.iaload, 1) := by decide +kernel
theorem dX10_runs_122 : decode cX10_runs 122 = .ok (.i2l, 1) := by decide +kernel
theorem dX10_runs_123 : decode cX10_runs 123 = .ok (.invokevirtual 237, 3) := by decide +kernel
theorem dX10_runs_126 : decode cX10_runs 126 = .ok (.aload_n 0, 1) := by decide +kernel
theorem dX10_runs_127 : decode cX10_runs 127 = .ok (.iload_n 2, 1) := by decide +kernel
theorem dX10_runs_128 : decode cX10_runs 128 = .ok (.i2l, 1) := by decide +kernel
theorem dX10_runs_129 : decode cX10_runs 129 = .ok (.invokevirtual 237, 3) := by decide +kernel
theorem dX10_runs_132 : decode cX10_runs 132 = .ok (.aload_n 0, 1) := by decide +kernel
theorem dX10_runs_133 : decode cX10_runs 133 = .ok (.iload_n 3, 1) := by decide +kernel
theorem dX10_runs_134 : decode cX10_runs 134 = .ok (.i2l, 1) := by decide +kernel
theorem dX10_runs_135 : decode cX10_runs 135 = .ok (.invokevirtual 237, 3) := by decide +kernel
theorem dX10_runs_138 : decode cX10_runs 138 = .ok (.aload_n 0, 1) := by decide +kernel
theorem dX10_runs_139 : decode cX10_runs 139 = .ok (.iload_n 1, 1) := by decide +kernel
theorem dX10_runs_140 : decode cX10_runs 140 = .ok (.invokevirtual 279, 3) := by decide +kernel
theorem dX10_runs_143 : decode cX10_runs 143 = .ok (.ireturn, 1) := by decide +kernel
set_option maxRecDepth 20000 in
theorem ggX10_all_X10_runsNow : GoodIn wsX10_all wsX10_runsNow := goodIn_r _ [8, 9, 10, 11, 7, 12, 13, 14, 15, 16, 17, 18, 19, 20, 21, 22, 3, 23, 24, 25, 26, 27, 28, 29, 30, 31, 32, 33, 34, 35, 36, 37, 38, 39, 40, 41, 42, 43, 44, 45, 46, 47, 48, 49, 50, 51, 52, 53, 54, 55, 56, 57, 58, 59, 60, 61, 62, 63, 64, 65, 66, 67, 68, 69, 70, 71, 72, 73, 74, 75, 76, 77, 78, 79, 80, 81, 82, 83, 84, 94, 95, 96, 97, 98, 99, 100, 101, 102, 103, 104, 105, 106, 107, 108, 109, 110, 111, 112, 113, 114, 115, 116, 117, 118, 119] (by decide +kernel) (by decide +kernel)
set_option maxRecDepth 20000 in
theorem gX10_all_X10_runsNow : GoodIn wsX10_all (wsV RX10 288 RX10 yX10_runsNow wsX10_runsNow) := goodIn_app (goodIn_of _ (by decide +kernel)) ggX10_all_X10_runsNow
set_option maxRecDepth 20000 in
theorem ggX10_all_X10_properBits : GoodIn wsX10_all wsX10_properBits := goodIn_r _ [88, 26, 27, 28, 7, 29, 18, 30, 31, 32, 33, 34, 35, 36, 37, 38, 39, 40, 41, 42, 43, 44, 94, 95, 96, 97, 98, 99, 100, 101, 102, 103, 104, 105, 106, 107, 108, 109, 110, 111, 112, 113, 114, 115, 116, 117, 118, 119] (by decide +kernel) (by decide +kernel)
set_option maxRecDepth 20000 in
theorem gX10_all_X10_properBits : GoodIn wsX10_all (wsV RX10 291 RX10 yX10_properBits wsX10_properBits) := goodIn_app (goodIn_of _ (by decide +kernel)) ggX10_all_X10_properBits
set_option maxRecDepth 20000 in
theorem ggX10_all_X10_tell : GoodIn wsX10_all wsX10_tell := goodIn_r _ [92, 93, 2, 94, 95, 96, 97, 98, 99, 100, 101, 102, 103, 104, 105, 106, 107, 108, 109, 110, 111, 112, 113, 114, 115, 116, 117, 118, 119] (by decide +kernel) (by decide +kernel)
set_option maxRecDepth 20000 in
theorem gX10_all_X10_tell : GoodIn wsX10_all (wsV RX10 237 RX10 yX10_tell wsX10_tell) := goodIn_app (goodIn_of _ (by decide +kernel)) ggX10_all_X10_tell
set_option maxRecDepth 20000 in
theorem ggX10_all_X10_rows : GoodIn wsX10_all wsX10_rows := goodIn_r _ [17, 18, 94, 95, 96, 97, 98, 99, 100, 101, 102, 103, 104, 105, 106, 107, 108, 109, 110, 111, 112, 113, 114, 115, 116, 117, 118, 119] (by decide +kernel) (by decide +kernel)
set_option maxRecDepth 20000 in
theorem gX10_all_X10_rows : GoodIn wsX10_all (wsV RX10 82 RX10 yX10_rows wsX10_rows) := goodIn_app (goodIn_of _ (by decide +kernel)) ggX10_all_X10_rows
theorem dX10_all_0 : decode cX10_all 0 = .ok (.aload_n 0, 1) := by decide +kernel
theorem dX10_all_1 : decode cX10_all 1 = .ok (.iconst 0, 1) := by decide +kernel
theorem dX10_all_2 : decode cX10_all 2 = .ok (.putfield 67, 3) := by decide +kernel
theorem dX10_all_5 : decode cX10_all 5 = .ok (.aload_n 0, 1) := by decide +kernel
theorem dX10_all_6 : decode cX10_all 6 = .ok (.invokevirtual 288, 3) := by decide +kernel
theorem dX10_all_9 : decode cX10_all 9 = .ok (.istore_n 1, 1) := by decide +kernel
theorem dX10_all_10 : decode cX10_all 10 = .ok (.aload_n 0, 1) := by decide +kernel
theorem dX10_all_11 : decode cX10_all 11 = .ok (.iconst 0, 1) := by decide +kernel
theorem dX10_all_12 : decode cX10_all 12 = .ok (.putfield 71, 3) := by decide +kernel
theorem dX10_all_15 : decode cX10_all 15 = .ok (.aload_n 0, 1) := by decide +kernel
theorem dX10_all_16 : decode cX10_all 16 = .ok (.aload_n 0, 1) := by decide +kernel
theorem dX10_all_17 : decode cX10_all 17 = .ok (.invokevirtual 291, 3) := by decide +kernel
theorem dX10_all_20 : decode cX10_all 20 = .ok (.i2l, 1) := by decide +kernel
theorem dX10_all_21 : decode cX10_all 21 = .ok (.invokevirtual 237, 3) := by decide +kernel
theorem dX10_all_24 : decode cX10_all 24 = .ok (.aload_n 0, 1) := by decide +kernel
theorem dX10_all_25 : decode cX10_all 25 = .ok (.aload_n 0, 1) := by decide +kernel
theorem dX10_all_26 : decode cX10_all 26 = .ok (.getfield 267, 3) := by decide +kernel
theorem dX10_all_29 : decode cX10_all 29 = .ok (.i2l, 1) := by decide +kernel
theorem dX10_all_30 : decode cX10_all 30 = .ok (.aload_n 0, 1) := by decide +kernel
theorem dX10_all_31 : decode cX10_all 31 = .ok (.invokevirtual 82, 3) := by decide +kernel
theorem dX10_all_34 : decode cX10_all 34 = .ok (.i2l, 1) := by decide +kernel
theorem dX10_all_35 : decode cX10_all 35 = .ok (.lmul, 1) := by decide +kernel
theorem dX10_all_36 : decode cX10_all 36 = .ok (.invokevirtual 237, 3) := by decide +kernel
theorem dX10_all_39 : decode cX10_all 39 = .ok (.iload_n 1, 1) := by decide +kernel
theorem dX10_all_40 : decode cX10_all 40 = .ok (.ireturn, 1) := by decide +kernel
set_option maxRecDepth 20000 in
theorem ggX10_properBits_X10_columns : GoodIn wsX10_properBits wsX10_columns := goodIn_r _ [5, 6, 22, 23, 24, 25, 26, 27, 28, 29, 30, 31, 32, 33, 34, 35, 36, 37, 38, 39, 40, 41, 42, 43, 44, 45, 46, 47] (by decide +kernel) (by decide +kernel)
set_option maxRecDepth 20000 in
theorem gX10_properBits_X10_columns : GoodIn wsX10_properBits (wsV RX10 74 RX10 yX10_columns wsX10_columns) := goodIn_app (goodIn_of _ (by decide +kernel)) ggX10_properBits_X10_columns
set_option maxRecDepth 20000 in
theorem ggX10_properBits_X10_isProper : GoodIn wsX10_properBits wsX10_isProper := goodIn_r _ [10, 11, 12, 13, 4, 14, 1, 2, 3, 5, 6, 15, 16, 17, 18, 19, 20, 21, 22, 23, 24, 25, 26, 27, 28, 29, 30, 31, 32, 33, 34, 35, 36, 37, 38, 39, 40, 41, 42, 43, 44, 45, 46, 47] (by decide +kernel) (by decide +kernel)
set_option maxRecDepth 20000 in
theorem gX10_properBits_X10_isProper : GoodIn wsX10_properBits (wsV RX10 270 RX10 yX10_isProper wsX10_isProper) := goodIn_app (goodIn_of _ (by decide +kernel)) ggX10_properBits_X10_isProper
theorem dX10_properBits_0 : decode cX10_properBits 0 = .ok (.iconst 0, 1) := by decide +kernel
theorem dX10_properBits_1 : decode cX10_properBits 1 = .ok (.istore_n 1, 1) := by decide +kernel
theorem dX10_properBits_2 : decode cX10_properBits 2 = .ok (.iconst 0, 1) := by decide +kernel
theorem dX10_properBits_3 : decode cX10_properBits 3 = .ok (.istore_n 2, 1) := by decide +kernel
theorem dX10_properBits_4 : decode cX10_properBits 4 = .ok (.iload_n 2, 1) := by decide +kernel
theorem dX10_properBits_5 : decode cX10_properBits 5 = .ok (.aload_n 0, 1) := by decide +kernel
theorem dX10_properBits_6 : decode cX10_properBits 6 = .ok (.invokevirtual 74, 3) := by decide +kernel
theorem dX10_properBits_9 : decode cX10_properBits 9 = .ok (.if_icmp .ge 27, 3) := by decide +kernel
theorem dX10_properBits_12 : decode cX10_properBits 12 = .ok (.iload_n 1, 1) := by decide +kernel
theorem dX10_properBits_13 : decode cX10_properBits 13 = .ok (.aload_n 0, 1) := by decide +kernel
theorem dX10_properBits_14 : decode cX10_properBits 14 = .ok (.iload_n 2, 1) := by decide +kernel
theorem dX10_properBits_15 : decode cX10_properBits 15 = .ok (.invokevirtual 270, 3) := by decide +kernel
theorem dX10_properBits_18 : decode cX10_properBits 18 = .ok (.ifCond .eq 9, 3) := by decide +kernel
theorem dX10_properBits_21 : decode cX10_properBits 21 = .ok (.iconst 1, 1) := by decide +kernel
theorem dX10_properBits_22 : decode cX10_properBits 22 = .ok (.iload_n 2, 1) := by decide +kernel
theorem dX10_properBits_23 : decode cX10_properBits 23 = .ok (.ishl, 1) := by decide +kernel
theorem dX10_properBits_24 : decode cX10_properBits 24 = .ok (.goto 4, 3) := by decide +kernel
theorem dX10_properBits_27 : decode cX10_properBits 27 = .ok (.iconst 0, 1) := by decide +kernel
theorem dX10_properBits_28 : decode cX10_properBits 28 = .ok (.ior, 1) := by decide +kernel
theorem dX10_properBits_29 : decode cX10_properBits 29 = .ok (.istore_n 1, 1) := by decide +kernel
theorem dX10_properBits_30 : decode cX10_properBits 30 = .ok (.iinc 2 1, 3) := by decide +kernel
theorem dX10_properBits_33 : decode cX10_properBits 33 = .ok (.goto (-29), 3) := by decide +kernel
theorem dX10_properBits_36 : decode cX10_properBits 36 = .ok (.iload_n 1, 1) := by decide +kernel
theorem dX10_properBits_37 : decode cX10_properBits 37 = .ok (.ireturn, 1) := by decide +kernel
set_option maxRecDepth 20000 in
theorem ggX10_unlike_X10_isRow : GoodIn wsX10_unlike wsX10_isRow := goodIn_r _ [6, 7, 8, 9, 5, 10, 11, 12, 13, 14, 80, 81, 82, 83, 84, 85, 86, 87, 88, 89, 90, 91, 92, 93, 94, 95, 96, 97, 98, 99, 100, 101, 102, 103, 104, 105] (by decide +kernel) (by decide +kernel)
set_option maxRecDepth 20000 in
theorem gX10_unlike_X10_isRow : GoodIn wsX10_unlike (wsV RX10 185 RX10 yX10_isRow wsX10_isRow) := goodIn_app (goodIn_of _ (by decide +kernel)) ggX10_unlike_X10_isRow
set_option maxRecDepth 20000 in
theorem ggX10_unlike_X10_layLine : GoodIn wsX10_unlike wsX10_layLine := goodIn_r _ [18, 19, 7, 8, 9, 5, 10, 11, 20, 21, 22, 23, 24, 25, 26, 27, 28, 29, 30, 31, 32, 33, 34, 35, 36, 37, 38, 39, 12, 13, 14, 40, 41, 42, 43, 44, 45, 46, 47, 48, 49, 50, 51, 52, 53, 54, 55, 56, 57, 58, 59, 60, 61, 62, 63, 64, 65, 66, 67, 68, 69, 70, 71, 72, 73, 74, 75, 80, 81, 82, 83, 84, 85, 86, 87, 88, 89, 90, 91, 92, 93, 94, 95, 96, 97, 98, 99, 100, 101, 102, 103, 104, 105] (by decide +kernel) (by decide +kernel)
set_option maxRecDepth 20000 in
theorem gX10_unlike_X10_layLine : GoodIn wsX10_unlike (wsV RX10 282 RX10 yX10_layLine wsX10_layLine) := goodIn_app (goodIn_of _ (by decide +kernel)) ggX10_unlike_X10_layLine
set_option maxRecDepth 20000 in
theorem ggX10_unlike_X10_unlikeOf : GoodIn wsX10_unlike wsX10_unlikeOf := goodIn_r _ [79, 24, 27, 25, 80, 81, 82, 83, 84, 85, 86, 87, 88, 89, 90, 91, 92, 93, 94, 95, 96, 97, 98, 99, 100, 101, 102, 103, 104, 105] (by decide +kernel) (by decide +kernel)
set_option maxRecDepth 20000 in
theorem gX10_unlike_X10_unlikeOf : GoodIn wsX10_unlike (wsV RX10 294 RX10 yX10_unlikeOf wsX10_unlikeOf) := goodIn_app (goodIn_of _ (by decide +kernel)) ggX10_unlike_X10_unlikeOf
theorem dX10_unlike_0 : decode cX10_unlike 0 = .ok (.aload_n 0, 1) := by decide +kernel
theorem dX10_unlike_1 : decode cX10_unlike 1 = .ok (.iconst 0, 1) := by decide +kernel
theorem dX10_unlike_2 : decode cX10_unlike 2 = .ok (.putfield 67, 3) := by decide +kernel
theorem dX10_unlike_5 : decode cX10_unlike 5 = .ok (.aload_n 0, 1) := by decide +kernel
theorem dX10_unlike_6 : decode cX10_unlike 6 = .ok (.iload_n 1, 1) := by decide +kernel
theorem dX10_unlike_7 : decode cX10_unlike 7 = .ok (.invokevirtual 185, 3) := by decide +kernel
theorem dX10_unlike_10 : decode cX10_unlike 10 = .ok (.ifCond .eq 11, 3) := by decide +kernel
theorem dX10_unlike_13 : decode cX10_unlike 13 = .ok (.aload_n 0, 1) := by decide +kernel
theorem dX10_unlike_14 : decode cX10_unlike 14 = .ok (.iload_n 2, 1) := by decide +kernel
theorem dX10_unlike_15 : decode cX10_unlike 15 = .ok (.invokevirtual 185, 3) := by decide +kernel
theorem dX10_unlike_18 : decode cX10_unlike 18 = .ok (.ifCond .ne 5, 3) := by decide +kernel
theorem dX10_unlike_21 : decode cX10_unlike 21 = .ok (.iconst (-1), 1) := by decide +kernel
theorem dX10_unlike_22 : decode cX10_unlike 22 = .ok (.ireturn, 1) := by decide +kernel
theorem dX10_unlike_23 : decode cX10_unlike 23 = .ok (.aload_n 0, 1) := by decide +kernel
theorem dX10_unlike_24 : decode cX10_unlike 24 = .ok (.invokevirtual 282, 3) := by decide +kernel
theorem dX10_unlike_27 : decode cX10_unlike 27 = .ok (.aload_n 0, 1) := by decide +kernel
theorem dX10_unlike_28 : decode cX10_unlike 28 = .ok (.iload_n 1, 1) := by decide +kernel
theorem dX10_unlike_29 : decode cX10_unlike 29 = .ok (.iload_n 2, 1) := by decide +kernel
theorem dX10_unlike_30 : decode cX10_unlike 30 = .ok (.invokevirtual 294, 3) := by decide +kernel
theorem dX10_unlike_33 : decode cX10_unlike 33 = .ok (.ireturn, 1) := by decide +kernel
set_option maxRecDepth 20000 in
theorem ggX10_rank_X10_isColumn : GoodIn wsX10_rank wsX10_isColumn := goodIn_r _ [7, 8, 9, 10, 6, 11, 12, 13, 14, 15, 69, 70, 71, 72, 73, 74, 75, 76, 77, 78, 79, 80, 81, 82, 83, 84, 85, 86, 87, 88, 89, 90, 91, 92, 93, 94] (by decide +kernel) (by decide +kernel)
set_option maxRecDepth 20000 in
theorem gX10_rank_X10_isColumn : GoodIn wsX10_rank (wsV RX10 85 RX10 yX10_isColumn wsX10_isColumn) := goodIn_app (goodIn_of _ (by decide +kernel)) ggX10_rank_X10_isColumn
set_option maxRecDepth 20000 in
theorem ggX10_rank_X10_isRow : GoodIn wsX10_rank wsX10_isRow := goodIn_r _ [19, 20, 21, 22, 6, 23, 12, 13, 14, 15, 69, 70, 71, 72, 73, 74, 75, 76, 77, 78, 79, 80, 81, 82, 83, 84, 85, 86, 87, 88, 89, 90, 91, 92, 93, 94] (by decide +kernel) (by decide +kernel)
set_option maxRecDepth 20000 in
theorem gX10_rank_X10_isRow : GoodIn wsX10_rank (wsV RX10 185 RX10 yX10_isRow wsX10_isRow) := goodIn_app (goodIn_of _ (by decide +kernel)) ggX10_rank_X10_isRow
set_option maxRecDepth 20000 in
theorem ggX10_rank_X10_isProper : GoodIn wsX10_rank wsX10_isProper := goodIn_r _ [27, 3, 4, 5, 6, 7, 8, 9, 10, 11, 12, 13, 14, 15, 28, 29, 30, 31, 69, 70, 71, 72, 73, 74, 75, 76, 77, 78, 79, 80, 81, 82, 83, 84, 85, 86, 87, 88, 89, 90, 91, 92, 93, 94] (by decide +kernel) (by decide +kernel)
set_option maxRecDepth 20000 in
theorem gX10_rank_X10_isProper : GoodIn wsX10_rank (wsV RX10 270 RX10 yX10_isProper wsX10_isProper) := goodIn_app (goodIn_of _ (by decide +kernel)) ggX10_rank_X10_isProper
set_option maxRecDepth 20000 in
theorem ggX10_rank_X10_rows : GoodIn wsX10_rank wsX10_rows := goodIn_r _ [23, 12, 69, 70, 71, 72, 73, 74, 75, 76, 77, 78, 79, 80, 81, 82, 83, 84, 85, 86, 87, 88, 89, 90, 91, 92, 93, 94] (by decide +kernel) (by decide +kernel)
set_option maxRecDepth 20000 in
theorem gX10_rank_X10_rows : GoodIn wsX10_rank (wsV RX10 82 RX10 yX10_rows wsX10_rows) := goodIn_app (goodIn_of _ (by decide +kernel)) ggX10_rank_X10_rows
set_option maxRecDepth 20000 in
theorem ggX10_rank_X10_cell : GoodIn wsX10_rank wsX10_cell := goodIn_r _ [35, 12, 36, 37, 6, 38, 69, 70, 71, 72, 73, 74, 75, 76, 77, 78, 79, 80, 81, 82, 83, 84, 85, 86, 87, 88, 89, 90, 91, 92, 93, 94] (by decide +kernel) (by decide +kernel)
set_option maxRecDepth 20000 in
theorem gX10_rank_X10_cell : GoodIn wsX10_rank (wsV RX10 234 RX10 yX10_cell wsX10_cell) := goodIn_app (goodIn_of _ (by decide +kernel)) ggX10_rank_X10_cell
set_option maxRecDepth 20000 in
theorem ggX10_rank_X10_tell : GoodIn wsX10_rank wsX10_tell := goodIn_r _ [42, 43, 2, 69, 70, 71, 72, 73, 74, 75, 76, 77, 78, 79, 80, 81, 82, 83, 84, 85, 86, 87, 88, 89, 90, 91, 92, 93, 94] (by decide +kernel) (by decide +kernel)
set_option maxRecDepth 20000 in
theorem gX10_rank_X10_tell : GoodIn wsX10_rank (wsV RX10 237 RX10 yX10_tell wsX10_tell) := goodIn_app (goodIn_of _ (by decide +kernel)) ggX10_rank_X10_tell
set_option maxRecDepth 20000 in
theorem ggX10_rank_X10_rankOf : GoodIn wsX10_rank wsX10_rankOf := goodIn_r _ [47, 20, 21, 22, 6, 23, 12, 48, 49, 50, 51, 32, 33, 34, 35, 36, 37, 38, 28, 29, 30, 31, 52, 53, 54, 55, 56, 57, 58, 59, 60, 61, 62, 63, 64, 65, 66, 67, 68, 69, 70, 71, 72, 73, 74, 75, 76, 77, 78, 79, 80, 81, 82, 83, 84, 85, 86, 87, 88, 89, 90, 91, 92, 93, 94] (by decide +kernel) (by decide +kernel)
set_option maxRecDepth 20000 in
theorem gX10_rank_X10_rankOf : GoodIn wsX10_rank (wsV RX10 273 RX10 yX10_rankOf wsX10_rankOf) := goodIn_app (goodIn_of _ (by decide +kernel)) ggX10_rank_X10_rankOf
theorem dX10_rank_0 : decode cX10_rank 0 = .ok (.aload_n 0, 1) := by decide +kernel
theorem dX10_rank_1 : decode cX10_rank 1 = .ok (.iconst 0, 1) := by decide +kernel
theorem dX10_rank_2 : decode cX10_rank 2 = .ok (.putfield 67, 3) := by decide +kernel
theorem dX10_rank_5 : decode cX10_rank 5 = .ok (.aload_n 0, 1) := by decide +kernel
theorem dX10_rank_6 : decode cX10_rank 6 = .ok (.iload_n 1, 1) := by decide +kernel
theorem dX10_rank_7 : decode cX10_rank 7 = .ok (.invokevirtual 85, 3) := by decide +kernel
theorem dX10_rank_10 : decode cX10_rank 10 = .ok (.ifCond .eq 11, 3) := by decide +kernel
theorem dX10_rank_13 : decode cX10_rank 13 = .ok (.aload_n 0, 1) := by decide +kernel
theorem dX10_rank_14 : decode cX10_rank 14 = .ok (.iload_n 2, 1) := by decide +kernel
theorem dX10_rank_15 : decode cX10_rank 15 = .ok (.invokevirtual 185, 3) := by decide +kernel
theorem dX10_rank_18 : decode cX10_rank 18 = .ok (.ifCond .ne 5, 3) := by decide +kernel
theorem dX10_rank_21 : decode cX10_rank 21 = .ok (.iconst (-1), 1) := by decide +kernel
theorem dX10_rank_22 : decode cX10_rank 22 = .ok (.ireturn, 1) := by decide +kernel
theorem dX10_rank_23 : decode cX10_rank 23 = .ok (.aload_n 0, 1) := by decide +kernel
theorem dX10_rank_24 : decode cX10_rank 24 = .ok (.iload_n 1, 1) := by decide +kernel
theorem dX10_rank_25 : decode cX10_rank 25 = .ok (.invokevirtual 270, 3) := by decide +kernel
theorem dX10_rank_28 : decode cX10_rank 28 = .ok (.ifCond .ne 6, 3) := by decide +kernel
theorem dX10_rank_31 : decode cX10_rank 31 = .ok (.bipush (-2), 2) := by decide +kernel
theorem dX10_rank_33 : decode cX10_rank 33 = .ok (.ireturn, 1) := by decide +kernel
theorem dX10_rank_34 : decode cX10_rank 34 = .ok (.iconst 0, 1) := by decide +kernel
theorem dX10_rank_35 : decode cX10_rank 35 = .ok (.istore_n 3, 1) := by decide +kernel
theorem dX10_rank_36 : decode cX10_rank 36 = .ok (.iconst 0, 1) := by decide +kernel
theorem dX10_rank_37 : decode cX10_rank 37 = .ok (.istore 4, 2) := by decide +kernel
theorem dX10_rank_39 : decode cX10_rank 39 = .ok (.iload 4, 2) := by decide +kernel
theorem dX10_rank_41 : decode cX10_rank 41 = .ok (.aload_n 0, 1) := by decide +kernel
theorem dX10_rank_42 : decode cX10_rank 42 = .ok (.invokevirtual 82, 3) := by decide +kernel
theorem dX10_rank_45 : decode cX10_rank 45 = .ok (.if_icmp .ge 34, 3) := by decide +kernel
theorem dX10_rank_48 : decode cX10_rank 48 = .ok (.iload_n 3, 1) := by decide +kernel
theorem dX10_rank_49 : decode cX10_rank 49 = .ok (.aload_n 0, 1) := by decide +kernel
theorem dX10_rank_50 : decode cX10_rank 50 = .ok (.iload_n 1, 1) := by decide +kernel
theorem dX10_rank_51 : decode cX10_rank 51 = .ok (.iload 4, 2) := by decide +kernel
theorem dX10_rank_53 : decode cX10_rank 53 = .ok (.invokevirtual 234, 3) := by decide +kernel
theorem dX10_rank_56 : decode cX10_rank 56 = .ok (.aload_n 0, 1) := by decide +kernel
theorem dX10_rank_57 : decode cX10_rank 57 = .ok (.iload_n 1, 1) := by decide +kernel
theorem dX10_rank_58 : decode cX10_rank 58 = .ok (.iload_n 2, 1) := by decide +kernel
theorem dX10_rank_59 : decode cX10_rank 59 = .ok (.invokevirtual 234, 3) := by decide +kernel
theorem dX10_rank_62 : decode cX10_rank 62 = .ok (.lcmp, 1) := by decide +kernel
theorem dX10_rank_63 : decode cX10_rank 63 = .ok (.ifCond .ne 7, 3) := by decide +kernel
theorem dX10_rank_66 : decode cX10_rank 66 = .ok (.iconst 1, 1) := by decide +kernel
theorem dX10_rank_67 : decode cX10_rank 67 = .ok (.goto 4, 3) := by decide +kernel
theorem dX10_rank_70 : decode cX10_rank 70 = .ok (.iconst 0, 1) := by decide +kernel
theorem dX10_rank_71 : decode cX10_rank 71 = .ok (.iadd, 1) := by decide +kernel
theorem dX10_rank_72 : decode cX10_rank 72 = .ok (.istore_n 3, 1) := by decide +kernel
theorem dX10_rank_73 : decode cX10_rank 73 = .ok (.iinc 4 1, 3) := by decide +kernel
theorem dX10_rank_76 : decode cX10_rank 76 = .ok (.goto (-37), 3) := by decide +kernel
theorem dX10_rank_79 : decode cX10_rank 79 = .ok (.aload_n 0, 1) := by decide +kernel
theorem dX10_rank_80 : decode cX10_rank 80 = .ok (.iconst 0, 1) := by decide +kernel
theorem dX10_rank_81 : decode cX10_rank 81 = .ok (.putfield 71, 3) := by decide +kernel
theorem dX10_rank_84 : decode cX10_rank 84 = .ok (.aload_n 0, 1) := by decide +kernel
theorem dX10_rank_85 : decode cX10_rank 85 = .ok (.iload_n 3, 1) := by decide +kernel
theorem dX10_rank_86 : decode cX10_rank 86 = .ok (.i2l, 1) := by decide +kernel
theorem dX10_rank_87 : decode cX10_rank 87 = .ok (.invokevirtual 237, 3) := by decide +kernel
theorem dX10_rank_90 : decode cX10_rank 90 = .ok (.aload_n 0, 1) := by decide +kernel
theorem dX10_rank_91 : decode cX10_rank 91 = .ok (.iload_n 1, 1) := by decide +kernel
theorem dX10_rank_92 : decode cX10_rank 92 = .ok (.iload_n 2, 1) := by decide +kernel
theorem dX10_rank_93 : decode cX10_rank 93 = .ok (.invokevirtual 273, 3) := by decide +kernel
theorem dX10_rank_96 : decode cX10_rank 96 = .ok (.ireturn, 1) := by decide +kernel
set_option maxRecDepth 20000 in
theorem ggX10_least_X10_runsNow : GoodIn wsX10_least wsX10_runsNow := goodIn_r _ [10, 11, 12, 13, 9, 14, 15, 16, 17, 18, 19, 20, 21, 22, 23, 24, 2, 4, 3, 25, 26, 27, 28, 29, 30, 31, 32, 33, 34, 35, 36, 37, 38, 39, 40, 41, 42, 43, 44, 45, 46, 47, 48, 49, 50, 51, 52, 53, 54, 55, 56, 57, 58, 59, 60, 61, 62, 63, 64, 65, 66, 67, 68, 69, 70, 71, 72, 73, 74, 75, 76, 77, 78, 79, 80, 81, 82, 83, 84, 90, 91, 92, 93, 94, 95, 96, 97, 98, 99, 100, 101, 102, 103, 104, 105, 106, 107, 108, 109, 110, 111, 112, 113, 114, 115] (by decide +kernel) (by decide +kernel)
set_option maxRecDepth 20000 in
theorem gX10_least_X10_runsNow : GoodIn wsX10_least (wsV RX10 288 RX10 yX10_runsNow wsX10_runsNow) := goodIn_app (goodIn_of _ (by decide +kernel)) ggX10_least_X10_runsNow
set_option maxRecDepth 20000 in
theorem ggX10_least_X10_tell : GoodIn wsX10_least wsX10_tell := goodIn_r _ [88, 89, 5, 90, 91, 92, 93, 94, 95, 96, 97, 98, 99, 100, 101, 102, 103, 104, 105, 106, 107, 108, 109, 110, 111, 112, 113, 114, 115] (by decide +kernel) (by decide +kernel)
set_option maxRecDepth 20000 in
theorem gX10_least_X10_tell : GoodIn wsX10_least (wsV RX10 237 RX10 yX10_tell wsX10_tell) := goodIn_app (goodIn_of _ (by decide +kernel)) ggX10_least_X10_tell
theorem dX10_least_0 : decode cX10_least 0 = .ok (.aload_n 0, 1) := by decide +kernel
theorem dX10_least_1 : decode cX10_least 1 = .ok (.iconst 0, 1) := by decide +kernel
theorem dX10_least_2 : decode cX10_least 2 = .ok (.putfield 67, 3) := by decide +kernel
theorem dX10_least_5 : decode cX10_least 5 = .ok (.aload_n 0, 1) := by decide +kernel
theorem dX10_least_6 : decode cX10_least 6 = .ok (.invokevirtual 288, 3) := by decide +kernel
theorem dX10_least_9 : decode cX10_least 9 = .ok (.istore_n 1, 1) := by decide +kernel
theorem dX10_least_10 : decode cX10_least 10 = .ok (.iconst 0, 1) := by decide +kernel
theorem dX10_least_11 : decode cX10_least 11 = .ok (.istore_n 2, 1) := by decide +kernel
theorem dX10_least_12 : decode cX10_least 12 = .ok (.iconst 0, 1) := by decide +kernel
theorem dX10_least_13 : decode cX10_least 13 = .ok (.istore_n 3, 1) := by decide +kernel
theorem dX10_least_14 : decode cX10_least 14 = .ok (.iload_n 3, 1) := by decide +kernel
theorem dX10_least_15 : decode cX10_least 15 = .ok (.aload_n 0, 1) := by decide +kernel
theorem dX10_least_16 : decode cX10_least 16 = .ok (.getfield 267, 3) := by decide +kernel
theorem dX10_least_19 : decode cX10_least 19 = .ok (.if_icmp .ge 23, 3) := by decide +kernel
theorem dX10_least_22 : decode cX10_least 22 = .ok (.iload_n 2, 1) := by decide +kernel
theorem dX10_least_23 : decode cX10_least 23 = .ok (.aload_n 0, 1) := by decide +kernel
theorem dX10_least_24 : decode cX10_least 24 = .ok (.getfield 29, 3) := by decide +kernel
theorem dX10_least_27 : decode cX10_least 27 = .ok (.aload_n 0, 1) := by decide +kernel
theorem dX10_least_28 : decode cX10_least 28 = .ok (.getfield 32, 3) := by decide +kernel
theorem dX10_least_31 : decode cX10_least 31 = .ok (.iload_n 3, 1) := by decide +kernel
theorem dX10_least_32 : decode cX10_least 32 = .ok (.iaload, 1) := by decide +kernel
theorem dX10_least_33 : decode cX10_least 33 = .ok (.iaload, 1) := by decide +kernel
theorem dX10_least_34 : decode cX10_least 34 = .ok (.iadd, 1) := by decide +kernel
theorem dX10_least_35 : decode cX10_least 35 = .ok (.istore_n 2, 1) := by decide +kernel
theorem dX10_least_36 : decode cX10_least 36 = .ok (.iinc 3 1, 3) := by decide +kernel
theorem dX10_least_39 : decode cX10_least 39 = .ok (.goto (-25), 3) := by decide +kernel
theorem dX10_least_42 : decode cX10_least 42 = .ok (.aload_n 0, 1) := by decide +kernel
theorem dX10_least_43 : decode cX10_least 43 = .ok (.iconst 0, 1) := by decide +kernel
theorem dX10_least_44 : decode cX10_least 44 = .ok (.putfield 71, 3) := by decide +kernel
theorem dX10_least_47 : decode cX10_least 47 = .ok (.aload_n 0, 1) := by decide +kernel
theorem dX10_least_48 : decode cX10_least 48 = .ok (.iload_n 1, 1) := by decide +kernel
theorem dX10_least_49 : decode cX10_least 49 = .ok (.iload_n 2, 1) := by decide +kernel
theorem dX10_least_50 : decode cX10_least 50 = .ok (.isub, 1) := by decide +kernel
theorem dX10_least_51 : decode cX10_least 51 = .ok (.i2l, 1) := by decide +kernel
theorem dX10_least_52 : decode cX10_least 52 = .ok (.invokevirtual 237, 3) := by decide +kernel
theorem dX10_least_55 : decode cX10_least 55 = .ok (.iload_n 2, 1) := by decide +kernel
theorem dX10_least_56 : decode cX10_least 56 = .ok (.ireturn, 1) := by decide +kernel
set_option maxRecDepth 20000 in
theorem ggX10_addToOrder_X10_isProper : GoodIn wsX10_addToOrder wsX10_isProper := goodIn_r _ [7, 8, 9, 10, 6, 11, 12, 13, 14, 15, 16, 17, 18, 19, 20, 21, 22, 23, 24, 25, 26, 27, 28, 29, 30, 31, 32, 33, 34, 35, 36, 37, 38, 39, 40, 41, 42, 43, 44, 45, 46, 47, 48, 49] (by decide +kernel) (by decide +kernel)
set_option maxRecDepth 20000 in
theorem gX10_addToOrder_X10_isProper : GoodIn wsX10_addToOrder (wsV RX10 270 RX10 yX10_isProper wsX10_isProper) := goodIn_app (goodIn_of _ (by decide +kernel)) ggX10_addToOrder_X10_isProper
theorem dX10_addToOrder_0 : decode cX10_addToOrder 0 = .ok (.aload_n 0, 1) := by decide +kernel
theorem dX10_addToOrder_1 : decode cX10_addToOrder 1 = .ok (.iload_n 1, 1) := by decide +kernel
theorem dX10_addToOrder_2 : decode cX10_addToOrder 2 = .ok (.invokevirtual 270, 3) := by decide +kernel
theorem dX10_addToOrder_5 : decode cX10_addToOrder 5 = .ok (.ifCond .ne 4, 3) := by decide +kernel
theorem dX10_addToOrder_8 : decode cX10_addToOrder 8 = .ok (.return_, 1) := by decide +kernel
theorem dX10_addToOrder_9 : decode cX10_addToOrder 9 = .ok (.aload_n 0, 1) := by decide +kernel
theorem dX10_addToOrder_10 : decode cX10_addToOrder 10 = .ok (.getfield 38, 3) := by decide +kernel
theorem dX10_addToOrder_13 : decode cX10_addToOrder 13 = .ok (.aload_n 0, 1) := by decide +kernel
theorem dX10_addToOrder_14 : decode cX10_addToOrder 14 = .ok (.getfield 297, 3) := by decide +kernel
theorem dX10_addToOrder_17 : decode cX10_addToOrder 17 = .ok (.iload_n 1, 1) := by decide +kernel
theorem dX10_addToOrder_18 : decode cX10_addToOrder 18 = .ok (.iastore, 1) := by decide +kernel
theorem dX10_addToOrder_19 : decode cX10_addToOrder 19 = .ok (.aload_n 0, 1) := by decide +kernel
theorem dX10_addToOrder_20 : decode cX10_addToOrder 20 = .ok (.dup, 1) := by decide +kernel
theorem dX10_addToOrder_21 : decode cX10_addToOrder 21 = .ok (.getfield 297, 3) := by decide +kernel
theorem dX10_addToOrder_24 : decode cX10_addToOrder 24 = .ok (.iconst 1, 1) := by decide +kernel
theorem dX10_addToOrder_25 : decode cX10_addToOrder 25 = .ok (.iadd, 1) := by decide +kernel
theorem dX10_addToOrder_26 : decode cX10_addToOrder 26 = .ok (.putfield 297, 3) := by decide +kernel
theorem dX10_addToOrder_29 : decode cX10_addToOrder 29 = .ok (.return_, 1) := by decide +kernel
set_option maxRecDepth 20000 in
theorem ggX10_readOrder_X10_begin : GoodIn wsX10_readOrder wsX10_begin := goodIn_r _ [8, 9, 3, 2, 10, 57, 58, 59, 60, 61, 62, 63, 64, 65, 66, 67, 68, 69, 70, 71, 72, 73, 74, 75, 76, 77, 78, 79, 80, 81, 82] (by decide +kernel) (by decide +kernel)
set_option maxRecDepth 20000 in
theorem gX10_readOrder_X10_begin : GoodIn wsX10_readOrder (wsV RX10 136 RX10 yX10_begin wsX10_begin) := goodIn_app (goodIn_of _ (by decide +kernel)) ggX10_readOrder_X10_begin
set_option maxRecDepth 20000 in
theorem ggX10_readOrder_X10_fine : GoodIn wsX10_readOrder wsX10_fine := goodIn_r _ [14, 10, 57, 58, 59, 60, 61, 62, 63, 64, 65, 66, 67, 68, 69, 70, 71, 72, 73, 74, 75, 76, 77, 78, 79, 80, 81, 82] (by decide +kernel) (by decide +kernel)
set_option maxRecDepth 20000 in
theorem gX10_readOrder_X10_fine : GoodIn wsX10_readOrder (wsV RX10 109 RX10 yX10_fine wsX10_fine) := goodIn_app (goodIn_of _ (by decide +kernel)) ggX10_readOrder_X10_fine
set_option maxRecDepth 20000 in
theorem ggX10_readOrder_X10_columns : GoodIn wsX10_readOrder wsX10_columns := goodIn_r _ [18, 19, 57, 58, 59, 60, 61, 62, 63, 64, 65, 66, 67, 68, 69, 70, 71, 72, 73, 74, 75, 76, 77, 78, 79, 80, 81, 82] (by decide +kernel) (by decide +kernel)
set_option maxRecDepth 20000 in
theorem gX10_readOrder_X10_columns : GoodIn wsX10_readOrder (wsV RX10 74 RX10 yX10_columns wsX10_columns) := goodIn_app (goodIn_of _ (by decide +kernel)) ggX10_readOrder_X10_columns
set_option maxRecDepth 20000 in
theorem ggX10_readOrder_X10_oneOf : GoodIn wsX10_readOrder wsX10_oneOf := goodIn_r _ [23, 2, 24, 11, 12, 13, 7, 14, 10, 25, 26, 27, 28, 3, 29, 30, 31, 32, 33, 34, 35, 57, 58, 59, 60, 61, 62, 63, 64, 65, 66, 67, 68, 69, 70, 71, 72, 73, 74, 75, 76, 77, 78, 79, 80, 81, 82] (by decide +kernel) (by decide +kernel)
set_option maxRecDepth 20000 in
theorem gX10_readOrder_X10_oneOf : GoodIn wsX10_readOrder (wsV RX10 120 RX10 yX10_oneOf wsX10_oneOf) := goodIn_app (goodIn_of _ (by decide +kernel)) ggX10_readOrder_X10_oneOf
set_option maxRecDepth 20000 in
theorem ggX10_readOrder_X10_fault : GoodIn wsX10_readOrder wsX10_fault := goodIn_r _ [35, 10, 11, 12, 13, 7, 14, 57, 58, 59, 60, 61, 62, 63, 64, 65, 66, 67, 68, 69, 70, 71, 72, 73, 74, 75, 76, 77, 78, 79, 80, 81, 82] (by decide +kernel) (by decide +kernel)
set_option maxRecDepth 20000 in
theorem gX10_readOrder_X10_fault : GoodIn wsX10_readOrder (wsV RX10 116 RX10 yX10_fault wsX10_fault) := goodIn_app (goodIn_of _ (by decide +kernel)) ggX10_readOrder_X10_fault
set_option maxRecDepth 20000 in
theorem ggX10_readOrder_X10_addToOrder : GoodIn wsX10_readOrder wsX10_addToOrder := goodIn_r _ [39, 40, 1, 41, 42, 43, 7, 44, 45, 46, 47, 48, 15, 16, 17, 18, 19, 29, 30, 31, 49, 50, 51, 52, 57, 58, 59, 60, 61, 62, 63, 64, 65, 66, 67, 68, 69, 70, 71, 72, 73, 74, 75, 76, 77, 78, 79, 80, 81, 82] (by decide +kernel) (by decide +kernel)
set_option maxRecDepth 20000 in
theorem gX10_readOrder_X10_addToOrder : GoodIn wsX10_readOrder (wsV RX10 300 RX10 yX10_addToOrder wsX10_addToOrder) := goodIn_app (goodIn_of _ (by decide +kernel)) ggX10_readOrder_X10_addToOrder
set_option maxRecDepth 20000 in
theorem ggX10_readOrder_X10_wasRight : GoodIn wsX10_readOrder wsX10_wasRight := goodIn_r _ [56, 2, 3, 32, 33, 34, 7, 35, 10, 11, 12, 13, 14, 57, 58, 59, 60, 61, 62, 63, 64, 65, 66, 67, 68, 69, 70, 71, 72, 73, 74, 75, 76, 77, 78, 79, 80, 81, 82] (by decide +kernel) (by decide +kernel)
set_option maxRecDepth 20000 in
theorem gX10_readOrder_X10_wasRight : GoodIn wsX10_readOrder (wsV RX10 145 RX10 yX10_wasRight wsX10_wasRight) := goodIn_app (goodIn_of _ (by decide +kernel)) ggX10_readOrder_X10_wasRight
theorem dX10_readOrder_0 : decode cX10_readOrder 0 = .ok (.aload_n 0, 1) := by decide +kernel
theorem dX10_readOrder_1 : decode cX10_readOrder 1 = .ok (.invokevirtual 136, 3) := by decide +kernel
theorem dX10_readOrder_4 : decode cX10_readOrder 4 = .ok (.aload_n 0, 1) := by decide +kernel
theorem dX10_readOrder_5 : decode cX10_readOrder 5 = .ok (.iconst 0, 1) := by decide +kernel
theorem dX10_readOrder_6 : decode cX10_readOrder 6 = .ok (.putfield 297, 3) := by decide +kernel
theorem dX10_readOrder_9 : decode cX10_readOrder 9 = .ok (.iconst 0, 1) := by decide +kernel
theorem dX10_readOrder_10 : decode cX10_readOrder 10 = .ok (.istore_n 1, 1) := by decide +kernel
theorem dX10_readOrder_11 : decode cX10_readOrder 11 = .ok (.aload_n 0, 1) := by decide +kernel
theorem dX10_readOrder_12 : decode cX10_readOrder 12 = .ok (.invokevirtual 109, 3) := by decide +kernel
theorem dX10_readOrder_15 : decode cX10_readOrder 15 = .ok (.ifCond .eq 71, 3) := by decide +kernel
theorem dX10_readOrder_18 : decode cX10_readOrder 18 = .ok (.aload_n 0, 1) := by decide +kernel
theorem dX10_readOrder_19 : decode cX10_readOrder 19 = .ok (.getfield 103, 3) := by decide +kernel
theorem dX10_readOrder_22 : decode cX10_readOrder 22 = .ok (.aload_n 0, 1) := by decide +kernel
theorem dX10_readOrder_23 : decode cX10_readOrder 23 = .ok (.getfield 100, 3) := by decide +kernel
theorem dX10_readOrder_26 : decode cX10_readOrder 26 = .ok (.if_icmp .ge 60, 3) := by decide +kernel
theorem dX10_readOrder_29 : decode cX10_readOrder 29 = .ok (.aload_n 0, 1) := by decide +kernel
theorem dX10_readOrder_30 : decode cX10_readOrder 30 = .ok (.bipush 97, 2) := by decide +kernel
theorem dX10_readOrder_32 : decode cX10_readOrder 32 = .ok (.aload_n 0, 1) := by decide +kernel
theorem dX10_readOrder_33 : decode cX10_readOrder 33 = .ok (.invokevirtual 74, 3) := by decide +kernel
theorem dX10_readOrder_36 : decode cX10_readOrder 36 = .ok (.invokevirtual 120, 3) := by decide +kernel
theorem dX10_readOrder_39 : decode cX10_readOrder 39 = .ok (.istore_n 2, 1) := by decide +kernel
theorem dX10_readOrder_40 : decode cX10_readOrder 40 = .ok (.aload_n 0, 1) := by decide +kernel
theorem dX10_readOrder_41 : decode cX10_readOrder 41 = .ok (.invokevirtual 109, 3) := by decide +kernel
theorem dX10_readOrder_44 : decode cX10_readOrder 44 = .ok (.ifCond .ne 6, 3) := by decide +kernel
theorem dX10_readOrder_47 : decode cX10_readOrder 47 = .ok (.goto (-36), 3) := by decide +kernel
theorem dX10_readOrder_50 : decode cX10_readOrder 50 = .ok (.iload_n 1, 1) := by decide +kernel
theorem dX10_readOrder_51 : decode cX10_readOrder 51 = .ok (.iload_n 2, 1) := by decide +kernel
theorem dX10_readOrder_52 : decode cX10_readOrder 52 = .ok (.ishr, 1) := by decide +kernel
theorem dX10_readOrder_53 : decode cX10_readOrder 53 = .ok (.iconst 1, 1) := by decide +kernel
theorem dX10_readOrder_54 : decode cX10_readOrder 54 = .ok (.iand, 1) := by decide +kernel
theorem dX10_readOrder_55 : decode cX10_readOrder 55 = .ok (.iconst 1, 1) := by decide +kernel
theorem dX10_readOrder_56 : decode cX10_readOrder 56 = .ok (.if_icmp .ne 16, 3) := by decide +kernel
theorem dX10_readOrder_59 : decode cX10_readOrder 59 = .ok (.aload_n 0, 1) := by decide +kernel
theorem dX10_readOrder_60 : decode cX10_readOrder 60 = .ok (.aload_n 0, 1) := by decide +kernel
theorem dX10_readOrder_61 : decode cX10_readOrder 61 = .ok (.getfield 103, 3) := by decide +kernel
theorem dX10_readOrder_64 : decode cX10_readOrder 64 = .ok (.iconst 1, 1) := by decide +kernel
theorem dX10_readOrder_65 : decode cX10_readOrder 65 = .ok (.isub, 1) := by decide +kernel
theorem dX10_readOrder_66 : decode cX10_readOrder 66 = .ok (.invokevirtual 116, 3) := by decide +kernel
theorem dX10_readOrder_69 : decode cX10_readOrder 69 = .ok (.goto (-58), 3) := by decide +kernel
theorem dX10_readOrder_72 : decode cX10_readOrder 72 = .ok (.iload_n 1, 1) := by decide +kernel
theorem dX10_readOrder_73 : decode cX10_readOrder 73 = .ok (.iconst 1, 1) := by decide +kernel
theorem dX10_readOrder_74 : decode cX10_readOrder 74 = .ok (.iload_n 2, 1) := by decide +kernel
theorem dX10_readOrder_75 : decode cX10_readOrder 75 = .ok (.ishl, 1) := by decide +kernel
theorem dX10_readOrder_76 : decode cX10_readOrder 76 = .ok (.ior, 1) := by decide +kernel
theorem dX10_readOrder_77 : decode cX10_readOrder 77 = .ok (.istore_n 1, 1) := by decide +kernel
theorem dX10_readOrder_78 : decode cX10_readOrder 78 = .ok (.aload_n 0, 1) := by decide +kernel
theorem dX10_readOrder_79 : decode cX10_readOrder 79 = .ok (.iload_n 2, 1) := by decide +kernel
theorem dX10_readOrder_80 : decode cX10_readOrder 80 = .ok (.invokevirtual 300, 3) := by decide +kernel
theorem dX10_readOrder_83 : decode cX10_readOrder 83 = .ok (.goto (-72), 3) := by decide +kernel
theorem dX10_readOrder_86 : decode cX10_readOrder 86 = .ok (.aload_n 0, 1) := by decide +kernel
theorem dX10_readOrder_87 : decode cX10_readOrder 87 = .ok (.invokevirtual 145, 3) := by decide +kernel
theorem dX10_readOrder_90 : decode cX10_readOrder 90 = .ok (.ifCond .ne 5, 3) := by decide +kernel
theorem dX10_readOrder_93 : decode cX10_readOrder 93 = .ok (.iconst 0, 1) := by decide +kernel
theorem dX10_readOrder_94 : decode cX10_readOrder 94 = .ok (.ireturn, 1) := by decide +kernel
theorem dX10_readOrder_95 : decode cX10_readOrder 95 = .ok (.iconst 0, 1) := by decide +kernel
theorem dX10_readOrder_96 : decode cX10_readOrder 96 = .ok (.istore_n 2, 1) := by decide +kernel
theorem dX10_readOrder_97 : decode cX10_readOrder 97 = .ok (.iload_n 2, 1) := by decide +kernel
theorem dX10_readOrder_98 : decode cX10_readOrder 98 = .ok (.aload_n 0, 1) := by decide +kernel
theorem dX10_readOrder_99 : decode cX10_readOrder 99 = .ok (.invokevirtual 74, 3) := by decide +kernel
theorem dX10_readOrder_102 : decode cX10_readOrder 102 = .ok (.if_icmp .ge 22, 3) := by decide +kernel
theorem dX10_readOrder_105 : decode cX10_readOrder 105 = .ok (.iload_n 1, 1) := by decide +kernel
theorem dX10_readOrder_106 : decode cX10_readOrder 106 = .ok (.iload_n 2, 1) := by decide +kernel
theorem dX10_readOrder_107 : decode cX10_readOrder 107 = .ok (.ishr, 1) := by decide +kernel
theorem dX10_readOrder_108 : decode cX10_readOrder 108 = .ok (.iconst 1, 1) := by decide +kernel
theorem dX10_readOrder_109 : decode cX10_readOrder 109 = .ok (.iand, 1) := by decide +kernel
theorem dX10_readOrder_110 : decode cX10_readOrder 110 = .ok (.ifCond .ne 8, 3) := by decide +kernel
theorem dX10_readOrder_113 : decode cX10_readOrder 113 = .ok (.aload_n 0, 1) := by decide +kernel
theorem dX10_readOrder_114 : decode cX10_readOrder 114 = .ok (.iload_n 2, 1) := by decide +kernel
theorem dX10_readOrder_115 : decode cX10_readOrder 115 = .ok (.invokevirtual 300, 3) := by decide +kernel
theorem dX10_readOrder_118 : decode cX10_readOrder 118 = .ok (.iinc 2 1, 3) := by decide +kernel
theorem dX10_readOrder_121 : decode cX10_readOrder 121 = .ok (.goto (-24), 3) := by decide +kernel
theorem dX10_readOrder_124 : decode cX10_readOrder 124 = .ok (.iconst 1, 1) := by decide +kernel
theorem dX10_readOrder_125 : decode cX10_readOrder 125 = .ok (.ireturn, 1) := by decide +kernel
set_option maxRecDepth 20000 in
theorem ggX10_bound_X10_readOrder : GoodIn wsX10_bound wsX10_readOrder := goodIn_r _ [14, 3, 15, 16, 17, 18, 19, 13, 20, 21, 2, 22, 23, 24, 25, 26, 27, 28, 29, 30, 31, 32, 33, 34, 35, 36, 37, 38, 39, 40, 41, 42, 43, 44, 45, 46, 47, 48, 49, 50, 5, 51, 52, 53, 54, 55, 56, 57, 58, 59, 60, 61, 62, 63, 64, 65, 66, 115, 116, 117, 118, 119, 120, 121, 122, 123, 124, 125, 126, 127, 128, 129, 130, 131, 132, 133, 134, 135, 136, 137, 138, 139, 140] (by decide +kernel) (by decide +kernel)
set_option maxRecDepth 20000 in
theorem gX10_bound_X10_readOrder : GoodIn wsX10_bound (wsV RX10 303 RX10 yX10_readOrder wsX10_readOrder) := goodIn_app (goodIn_of _ (by decide +kernel)) ggX10_bound_X10_readOrder
set_option maxRecDepth 20000 in
theorem ggX10_bound_X10_layLine : GoodIn wsX10_bound wsX10_layLine := goodIn_r _ [70, 71, 72, 73, 74, 13, 75, 30, 76, 77, 78, 79, 80, 81, 4, 82, 26, 27, 28, 29, 51, 52, 53, 54, 55, 56, 57, 58, 40, 41, 42, 59, 60, 61, 62, 83, 84, 85, 86, 87, 88, 89, 90, 91, 92, 93, 94, 95, 96, 97, 98, 99, 100, 101, 102, 103, 104, 105, 106, 107, 108, 109, 110, 111, 112, 113, 114, 115, 116, 117, 118, 119, 120, 121, 122, 123, 124, 125, 126, 127, 128, 129, 130, 131, 132, 133, 134, 135, 136, 137, 138, 139, 140] (by decide +kernel) (by decide +kernel)
set_option maxRecDepth 20000 in
theorem gX10_bound_X10_layLine : GoodIn wsX10_bound (wsV RX10 282 RX10 yX10_layLine wsX10_layLine) := goodIn_app (goodIn_of _ (by decide +kernel)) ggX10_bound_X10_layLine
set_option maxRecDepth 20000 in
theorem ggX10_bound_X10_rows : GoodIn wsX10_bound wsX10_rows := goodIn_r _ [75, 30, 115, 116, 117, 118, 119, 120, 121, 122, 123, 124, 125, 126, 127, 128, 129, 130, 131, 132, 133, 134, 135, 136, 137, 138, 139, 140] (by decide +kernel) (by decide +kernel)
set_option maxRecDepth 20000 in
theorem gX10_bound_X10_rows : GoodIn wsX10_bound (wsV RX10 82 RX10 yX10_rows wsX10_rows) := goodIn_app (goodIn_of _ (by decide +kernel)) ggX10_bound_X10_rows
theorem dX10_bound_0 : decode cX10_bound 0 = .ok (.aload_n 0, 1) := by decide +kernel
theorem dX10_bound_1 : decode cX10_bound 1 = .ok (.iconst 0, 1) := by decide +kernel
theorem dX10_bound_2 : decode cX10_bound 2 = .ok (.putfield 67, 3) := by decide +kernel
theorem dX10_bound_5 : decode cX10_bound 5 = .ok (.aload_n 0, 1) := by decide +kernel
theorem dX10_bound_6 : decode cX10_bound 6 = .ok (.invokevirtual 303, 3) := by decide +kernel
theorem dX10_bound_9 : decode cX10_bound 9 = .ok (.ifCond .ne 10, 3) := by decide +kernel
theorem dX10_bound_12 : decode cX10_bound 12 = .ok (.iconst (-1), 1) := by decide +kernel
theorem dX10_bound_13 : decode cX10_bound 13 = .ok (.aload_n 0, 1) := by decide +kernel
theorem dX10_bound_14 : decode cX10_bound 14 = .ok (.getfield 106, 3) := by decide +kernel
theorem dX10_bound_17 : decode cX10_bound 17 = .ok (.isub, 1) := by decide +kernel
theorem dX10_bound_18 : decode cX10_bound 18 = .ok (.ireturn, 1) := by decide +kernel
theorem dX10_bound_19 : decode cX10_bound 19 = .ok (.aload_n 0, 1) := by decide +kernel
theorem dX10_bound_20 : decode cX10_bound 20 = .ok (.invokevirtual 282, 3) := by decide +kernel
theorem dX10_bound_23 : decode cX10_bound 23 = .ok (.iconst 0, 1) := by decide +kernel
theorem dX10_bound_24 : decode cX10_bound 24 = .ok (.istore_n 1, 1) := by decide +kernel
theorem dX10_bound_25 : decode cX10_bound 25 = .ok (.iconst 1, 1) := by decide +kernel
theorem dX10_bound_26 : decode cX10_bound 26 = .ok (.istore_n 2, 1) := by decide +kernel
theorem dX10_bound_27 : decode cX10_bound 27 = .ok (.iconst 0, 1) := by decide +kernel
theorem dX10_bound_28 : decode cX10_bound 28 = .ok (.istore_n 3, 1) := by decide +kernel
theorem dX10_bound_29 : decode cX10_bound 29 = .ok (.iload_n 3, 1) := by decide +kernel
theorem dX10_bound_30 : decode cX10_bound 30 = .ok (.aload_n 0, 1) := by decide +kernel
theorem dX10_bound_31 : decode cX10_bound 31 = .ok (.getfield 297, 3) := by decide +kernel
theorem dX10_bound_34 : decode cX10_bound 34 = .ok (.if_icmp .ge 34, 3) := by decide +kernel
theorem dX10_bound_37 : decode cX10_bound 37 = .ok (.aload_n 0, 1) := by decide +kernel
theorem dX10_bound_38 : decode cX10_bound 38 = .ok (.invokevirtual 82, 3) := by decide +kernel
theorem dX10_bound_41 : decode cX10_bound 41 = .ok (.iload_n 2, 1) := by decide +kernel
theorem dX10_bound_42 : decode cX10_bound 42 = .ok (.aload_n 0, 1) := by decide +kernel
theorem dX10_bound_43 : decode cX10_bound 43 = .ok (.getfield 29, 3) := by decide +kernel
theorem dX10_bound_46 : decode cX10_bound 46 = .ok (.aload_n 0, 1) := by decide +kernel
theorem dX10_bound_47 : decode cX10_bound 47 = .ok (.getfield 38, 3) := by decide +kernel
theorem dX10_bound_50 : decode cX10_bound 50 = .ok (.iload_n 3, 1) := by decide +kernel
theorem dX10_bound_51 : decode cX10_bound 51 = .ok (.iaload, 1) := by decide +kernel
theorem dX10_bound_52 : decode cX10_bound 52 = .ok (.iaload, 1) := by decide +kernel
theorem dX10_bound_53 : decode cX10_bound 53 = .ok (.imul, 1) := by decide +kernel
theorem dX10_bound_54 : decode cX10_bound 54 = .ok (.invokestatic 306, 3) := by decide +kernel
theorem dX10_bound_57 : decode cX10_bound 57 = .ok (.istore_n 2, 1) := by decide +kernel
theorem dX10_bound_58 : decode cX10_bound 58 = .ok (.iload_n 1, 1) := by decide +kernel
theorem dX10_bound_59 : decode cX10_bound 59 = .ok (.iload_n 2, 1) := by decide +kernel
theorem dX10_bound_60 : decode cX10_bound 60 = .ok (.iadd, 1) := by decide +kernel
theorem dX10_bound_61 : decode cX10_bound 61 = .ok (.istore_n 1, 1) := by decide +kernel
theorem dX10_bound_62 : decode cX10_bound 62 = .ok (.iinc 3 1, 3) := by decide +kernel
theorem dX10_bound_65 : decode cX10_bound 65 = .ok (.goto (-36), 3) := by decide +kernel
theorem dX10_bound_68 : decode cX10_bound 68 = .ok (.iload_n 1, 1) := by decide +kernel
theorem dX10_bound_69 : decode cX10_bound 69 = .ok (.ireturn, 1) := by decide +kernel
set_option maxRecDepth 20000 in
theorem ggX10_coded_X10_isColumn : GoodIn wsX10_coded wsX10_isColumn := goodIn_r _ [7, 8, 9, 10, 6, 11, 12, 13, 14, 15, 40, 41, 42, 43, 44, 45, 46, 47, 48, 49, 50, 51, 52, 53, 54, 55, 56, 57, 58, 59, 60, 61, 62, 63, 64, 65] (by decide +kernel) (by decide +kernel)
set_option maxRecDepth 20000 in
theorem gX10_coded_X10_isColumn : GoodIn wsX10_coded (wsV RX10 85 RX10 yX10_isColumn wsX10_isColumn) := goodIn_app (goodIn_of _ (by decide +kernel)) ggX10_coded_X10_isColumn
set_option maxRecDepth 20000 in
theorem ggX10_coded_X10_isProper : GoodIn wsX10_coded wsX10_isProper := goodIn_r _ [19, 3, 4, 5, 6, 7, 8, 9, 10, 11, 12, 13, 14, 15, 20, 21, 22, 23, 40, 41, 42, 43, 44, 45, 46, 47, 48, 49, 50, 51, 52, 53, 54, 55, 56, 57, 58, 59, 60, 61, 62, 63, 64, 65] (by decide +kernel) (by decide +kernel)
set_option maxRecDepth 20000 in
theorem gX10_coded_X10_isProper : GoodIn wsX10_coded (wsV RX10 270 RX10 yX10_isProper wsX10_isProper) := goodIn_app (goodIn_of _ (by decide +kernel)) ggX10_coded_X10_isProper
set_option maxRecDepth 20000 in
theorem ggX10_coded_X10_rows : GoodIn wsX10_coded wsX10_rows := goodIn_r _ [27, 12, 40, 41, 42, 43, 44, 45, 46, 47, 48, 49, 50, 51, 52, 53, 54, 55, 56, 57, 58, 59, 60, 61, 62, 63, 64, 65] (by decide +kernel) (by decide +kernel)
set_option maxRecDepth 20000 in
theorem gX10_coded_X10_rows : GoodIn wsX10_coded (wsV RX10 82 RX10 yX10_rows wsX10_rows) := goodIn_app (goodIn_of _ (by decide +kernel)) ggX10_coded_X10_rows
set_option maxRecDepth 20000 in
theorem ggX10_coded_X10_cell : GoodIn wsX10_coded wsX10_cell := goodIn_r _ [31, 12, 32, 33, 6, 34, 40, 41, 42, 43, 44, 45, 46, 47, 48, 49, 50, 51, 52, 53, 54, 55, 56, 57, 58, 59, 60, 61, 62, 63, 64, 65] (by decide +kernel) (by decide +kernel)
set_option maxRecDepth 20000 in
theorem gX10_coded_X10_cell : GoodIn wsX10_coded (wsV RX10 234 RX10 yX10_cell wsX10_cell) := goodIn_app (goodIn_of _ (by decide +kernel)) ggX10_coded_X10_cell
set_option maxRecDepth 20000 in
theorem ggX10_coded_X10_tell : GoodIn wsX10_coded wsX10_tell := goodIn_r _ [38, 39, 2, 40, 41, 42, 43, 44, 45, 46, 47, 48, 49, 50, 51, 52, 53, 54, 55, 56, 57, 58, 59, 60, 61, 62, 63, 64, 65] (by decide +kernel) (by decide +kernel)
set_option maxRecDepth 20000 in
theorem gX10_coded_X10_tell : GoodIn wsX10_coded (wsV RX10 237 RX10 yX10_tell wsX10_tell) := goodIn_app (goodIn_of _ (by decide +kernel)) ggX10_coded_X10_tell
theorem dX10_coded_0 : decode cX10_coded 0 = .ok (.aload_n 0, 1) := by decide +kernel
theorem dX10_coded_1 : decode cX10_coded 1 = .ok (.iconst 0, 1) := by decide +kernel
theorem dX10_coded_2 : decode cX10_coded 2 = .ok (.putfield 67, 3) := by decide +kernel
theorem dX10_coded_5 : decode cX10_coded 5 = .ok (.aload_n 0, 1) := by decide +kernel
theorem dX10_coded_6 : decode cX10_coded 6 = .ok (.iload_n 1, 1) := by decide +kernel
theorem dX10_coded_7 : decode cX10_coded 7 = .ok (.invokevirtual 85, 3) := by decide +kernel
theorem dX10_coded_10 : decode cX10_coded 10 = .ok (.ifCond .ne 5, 3) := by decide +kernel
theorem dX10_coded_13 : decode cX10_coded 13 = .ok (.iconst (-1), 1) := by decide +kernel
theorem dX10_coded_14 : decode cX10_coded 14 = .ok (.ireturn, 1) := by decide +kernel
theorem dX10_coded_15 : decode cX10_coded 15 = .ok (.aload_n 0, 1) := by decide +kernel
theorem dX10_coded_16 : decode cX10_coded 16 = .ok (.iload_n 1, 1) := by decide +kernel
theorem dX10_coded_17 : decode cX10_coded 17 = .ok (.invokevirtual 270, 3) := by decide +kernel
theorem dX10_coded_20 : decode cX10_coded 20 = .ok (.ifCond .ne 6, 3) := by decide +kernel
theorem dX10_coded_23 : decode cX10_coded 23 = .ok (.bipush (-2), 2) := by decide +kernel
theorem dX10_coded_25 : decode cX10_coded 25 = .ok (.ireturn, 1) := by decide +kernel
theorem dX10_coded_26 : decode cX10_coded 26 = .ok (.aload_n 0, 1) := by decide +kernel
theorem dX10_coded_27 : decode cX10_coded 27 = .ok (.iconst 0, 1) := by decide +kernel
theorem dX10_coded_28 : decode cX10_coded 28 = .ok (.putfield 71, 3) := by decide +kernel
theorem dX10_coded_31 : decode cX10_coded 31 = .ok (.iconst 0, 1) := by decide +kernel
theorem dX10_coded_32 : decode cX10_coded 32 = .ok (.istore_n 2, 1) := by decide +kernel
theorem dX10_coded_33 : decode cX10_coded 33 = .ok (.iconst 0, 1) := by decide +kernel
theorem dX10_coded_34 : decode cX10_coded 34 = .ok (.istore_n 3, 1) := by decide +kernel
theorem dX10_coded_35 : decode cX10_coded 35 = .ok (.iload_n 3, 1) := by decide +kernel
theorem dX10_coded_36 : decode cX10_coded 36 = .ok (.aload_n 0, 1) := by decide +kernel
theorem dX10_coded_37 : decode cX10_coded 37 = .ok (.invokevirtual 82, 3) := by decide +kernel
theorem dX10_coded_40 : decode cX10_coded 40 = .ok (.if_icmp .ge 71, 3) := by decide +kernel
theorem dX10_coded_43 : decode cX10_coded 43 = .ok (.iload_n 3, 1) := by decide +kernel
theorem dX10_coded_44 : decode cX10_coded 44 = .ok (.istore 4, 2) := by decide +kernel
theorem dX10_coded_46 : decode cX10_coded 46 = .ok (.iload 4, 2) := by decide +kernel
theorem dX10_coded_48 : decode cX10_coded 48 = .ok (.aload_n 0, 1) := by decide +kernel
theorem dX10_coded_49 : decode cX10_coded 49 = .ok (.invokevirtual 82, 3) := by decide +kernel
theorem dX10_coded_52 : decode cX10_coded 52 = .ok (.if_icmp .ge 26, 3) := by decide +kernel
theorem dX10_coded_55 : decode cX10_coded 55 = .ok (.aload_n 0, 1) := by decide +kernel
theorem dX10_coded_56 : decode cX10_coded 56 = .ok (.iload_n 1, 1) := by decide +kernel
theorem dX10_coded_57 : decode cX10_coded 57 = .ok (.iload 4, 2) := by decide +kernel
theorem dX10_coded_59 : decode cX10_coded 59 = .ok (.invokevirtual 234, 3) := by decide +kernel
theorem dX10_coded_62 : decode cX10_coded 62 = .ok (.aload_n 0, 1) := by decide +kernel
theorem dX10_coded_63 : decode cX10_coded 63 = .ok (.iload_n 1, 1) := by decide +kernel
theorem dX10_coded_64 : decode cX10_coded 64 = .ok (.iload_n 3, 1) := by decide +kernel
theorem dX10_coded_65 : decode cX10_coded 65 = .ok (.invokevirtual 234, 3) := by decide +kernel
theorem dX10_coded_68 : decode cX10_coded 68 = .ok (.lcmp, 1) := by decide +kernel
theorem dX10_coded_69 : decode cX10_coded 69 = .ok (.ifCond .ne 9, 3) := by decide +kernel
theorem dX10_coded_72 : decode cX10_coded 72 = .ok (.iinc 4 1, 3) := by decide +kernel
theorem dX10_coded_75 : decode cX10_coded 75 = .ok (.goto (-29), 3) := by decide +kernel
theorem dX10_coded_78 : decode cX10_coded 78 = .ok (.aload_n 0, 1) := by decide +kernel
theorem dX10_coded_79 : decode cX10_coded 79 = .ok (.aload_n 0, 1) := by decide +kernel
theorem dX10_coded_80 : decode cX10_coded 80 = .ok (.iload_n 1, 1) := by decide +kernel
theorem dX10_coded_81 : decode cX10_coded 81 = .ok (.iload_n 3, 1) := by decide +kernel
theorem dX10_coded_82 : decode cX10_coded 82 = .ok (.invokevirtual 234, 3) := by decide +kernel
theorem dX10_coded_85 : decode cX10_coded 85 = .ok (.invokevirtual 237, 3) := by decide +kernel
theorem dX10_coded_88 : decode cX10_coded 88 = .ok (.aload_n 0, 1) := by decide +kernel
theorem dX10_coded_89 : decode cX10_coded 89 = .ok (.iload 4, 2) := by decide +kernel
theorem dX10_coded_91 : decode cX10_coded 91 = .ok (.iload_n 3, 1) := by decide +kernel
theorem dX10_coded_92 : decode cX10_coded 92 = .ok (.isub, 1) := by decide +kernel
theorem dX10_coded_93 : decode cX10_coded 93 = .ok (.i2l, 1) := by decide +kernel
theorem dX10_coded_94 : decode cX10_coded 94 = .ok (.invokevirtual 237, 3) := by decide +kernel
theorem dX10_coded_97 : decode cX10_coded 97 = .ok (.iinc 2 1, 3) := by decide +kernel
theorem dX10_coded_100 : decode cX10_coded 100 = .ok (.iload 4, 2) := by decide +kernel
theorem dX10_coded_102 : decode cX10_coded 102 = .ok (.iconst 1, 1) := by decide +kernel
theorem dX10_coded_103 : decode cX10_coded 103 = .ok (.isub, 1) := by decide +kernel
theorem dX10_coded_104 : decode cX10_coded 104 = .ok (.istore_n 3, 1) := by decide +kernel
theorem dX10_coded_105 : decode cX10_coded 105 = .ok (.iinc 3 1, 3) := by decide +kernel
theorem dX10_coded_108 : decode cX10_coded 108 = .ok (.goto (-73), 3) := by decide +kernel
theorem dX10_coded_111 : decode cX10_coded 111 = .ok (.iload_n 2, 1) := by decide +kernel
theorem dX10_coded_112 : decode cX10_coded 112 = .ok (.ireturn, 1) := by decide +kernel
set_option maxRecDepth 20000 in
theorem ggX10_alike_X10_isRow : GoodIn wsX10_alike wsX10_isRow := goodIn_r _ [7, 8, 9, 10, 6, 11, 12, 13, 14, 15, 44, 45, 46, 47, 48, 49, 50, 51, 52, 53, 54, 55, 56, 57, 58, 59, 60, 61, 62, 63, 64, 65, 66, 67, 68, 69] (by decide +kernel) (by decide +kernel)
set_option maxRecDepth 20000 in
theorem gX10_alike_X10_isRow : GoodIn wsX10_alike (wsV RX10 185 RX10 yX10_isRow wsX10_isRow) := goodIn_app (goodIn_of _ (by decide +kernel)) ggX10_alike_X10_isRow
set_option maxRecDepth 20000 in
theorem ggX10_alike_X10_in : GoodIn wsX10_alike wsX10_in := goodIn_r _ [15] (by decide +kernel) (by decide +kernel)
set_option maxRecDepth 20000 in
theorem gX10_alike_X10_in : GoodIn wsX10_alike (va_wsS RX10 78 yX10_in wsX10_in) := goodIn_app (goodIn_of _ (by decide +kernel)) ggX10_alike_X10_in
set_option maxRecDepth 20000 in
theorem ggX10_alike_X10_rows : GoodIn wsX10_alike wsX10_rows := goodIn_r _ [11, 12, 44, 45, 46, 47, 48, 49, 50, 51, 52, 53, 54, 55, 56, 57, 58, 59, 60, 61, 62, 63, 64, 65, 66, 67, 68, 69] (by decide +kernel) (by decide +kernel)
set_option maxRecDepth 20000 in
theorem gX10_alike_X10_rows : GoodIn wsX10_alike (wsV RX10 82 RX10 yX10_rows wsX10_rows) := goodIn_app (goodIn_of _ (by decide +kernel)) ggX10_alike_X10_rows
set_option maxRecDepth 20000 in
theorem ggX10_alike_X10_columns : GoodIn wsX10_alike wsX10_columns := goodIn_r _ [19, 12, 44, 45, 46, 47, 48, 49, 50, 51, 52, 53, 54, 55, 56, 57, 58, 59, 60, 61, 62, 63, 64, 65, 66, 67, 68, 69] (by decide +kernel) (by decide +kernel)
set_option maxRecDepth 20000 in
theorem gX10_alike_X10_columns : GoodIn wsX10_alike (wsV RX10 74 RX10 yX10_columns wsX10_columns) := goodIn_app (goodIn_of _ (by decide +kernel)) ggX10_alike_X10_columns
set_option maxRecDepth 20000 in
theorem ggX10_alike_X10_isProper : GoodIn wsX10_alike wsX10_isProper := goodIn_r _ [23, 24, 25, 26, 6, 27, 16, 17, 18, 19, 12, 13, 14, 15, 28, 29, 30, 31, 44, 45, 46, 47, 48, 49, 50, 51, 52, 53, 54, 55, 56, 57, 58, 59, 60, 61, 62, 63, 64, 65, 66, 67, 68, 69] (by decide +kernel) (by decide +kernel)
set_option maxRecDepth 20000 in
theorem gX10_alike_X10_isProper : GoodIn wsX10_alike (wsV RX10 270 RX10 yX10_isProper wsX10_isProper) := goodIn_app (goodIn_of _ (by decide +kernel)) ggX10_alike_X10_isProper
set_option maxRecDepth 20000 in
theorem ggX10_alike_X10_cell : GoodIn wsX10_alike wsX10_cell := goodIn_r _ [35, 12, 36, 37, 6, 38, 44, 45, 46, 47, 48, 49, 50, 51, 52, 53, 54, 55, 56, 57, 58, 59, 60, 61, 62, 63, 64, 65, 66, 67, 68, 69] (by decide +kernel) (by decide +kernel)
set_option maxRecDepth 20000 in
theorem gX10_alike_X10_cell : GoodIn wsX10_alike (wsV RX10 234 RX10 yX10_cell wsX10_cell) := goodIn_app (goodIn_of _ (by decide +kernel)) ggX10_alike_X10_cell
set_option maxRecDepth 20000 in
theorem ggX10_alike_X10_tell : GoodIn wsX10_alike wsX10_tell := goodIn_r _ [42, 43, 2, 44, 45, 46, 47, 48, 49, 50, 51, 52, 53, 54, 55, 56, 57, 58, 59, 60, 61, 62, 63, 64, 65, 66, 67, 68, 69] (by decide +kernel) (by decide +kernel)
set_option maxRecDepth 20000 in
theorem gX10_alike_X10_tell : GoodIn wsX10_alike (wsV RX10 237 RX10 yX10_tell wsX10_tell) := goodIn_app (goodIn_of _ (by decide +kernel)) ggX10_alike_X10_tell
theorem dX10_alike_0 : decode cX10_alike 0 = .ok (.aload_n 0, 1) := by decide +kernel
theorem dX10_alike_1 : decode cX10_alike 1 = .ok (.iconst 0, 1) := by decide +kernel
theorem dX10_alike_2 : decode cX10_alike 2 = .ok (.putfield 67, 3) := by decide +kernel
theorem dX10_alike_5 : decode cX10_alike 5 = .ok (.aload_n 0, 1) := by decide +kernel
theorem dX10_alike_6 : decode cX10_alike 6 = .ok (.iload_n 1, 1) := by decide +kernel
theorem dX10_alike_7 : decode cX10_alike 7 = .ok (.invokevirtual 185, 3) := by decide +kernel
theorem dX10_alike_10 : decode cX10_alike 10 = .ok (.ifCond .eq 13, 3) := by decide +kernel
theorem dX10_alike_13 : decode cX10_alike 13 = .ok (.iload_n 2, 1) := by decide +kernel
theorem dX10_alike_14 : decode cX10_alike 14 = .ok (.iconst 0, 1) := by decide +kernel
theorem dX10_alike_15 : decode cX10_alike 15 = .ok (.bipush 63, 2) := by decide +kernel
theorem dX10_alike_17 : decode cX10_alike 17 = .ok (.invokestatic 78, 3) := by decide +kernel
theorem dX10_alike_20 : decode cX10_alike 20 = .ok (.ifCond .ne 5, 3) := by decide +kernel
theorem dX10_alike_23 : decode cX10_alike 23 = .ok (.iconst (-1), 1) := by decide +kernel
theorem dX10_alike_24 : decode cX10_alike 24 = .ok (.ireturn, 1) := by decide +kernel
theorem dX10_alike_25 : decode cX10_alike 25 = .ok (.iconst 0, 1) := by decide +kernel
theorem dX10_alike_26 : decode cX10_alike 26 = .ok (.istore_n 3, 1) := by decide +kernel
theorem dX10_alike_27 : decode cX10_alike 27 = .ok (.iconst 0, 1) := by decide +kernel
theorem dX10_alike_28 : decode cX10_alike 28 = .ok (.istore 4, 2) := by decide +kernel
theorem dX10_alike_30 : decode cX10_alike 30 = .ok (.iconst 0, 1) := by decide +kernel
theorem dX10_alike_31 : decode cX10_alike 31 = .ok (.istore 5, 2) := by decide +kernel
theorem dX10_alike_33 : decode cX10_alike 33 = .ok (.iload 5, 2) := by decide +kernel
theorem dX10_alike_35 : decode cX10_alike 35 = .ok (.aload_n 0, 1) := by decide +kernel
theorem dX10_alike_36 : decode cX10_alike 36 = .ok (.invokevirtual 82, 3) := by decide +kernel
theorem dX10_alike_39 : decode cX10_alike 39 = .ok (.if_icmp .ge 110, 3) := by decide +kernel
theorem dX10_alike_42 : decode cX10_alike 42 = .ok (.iconst 1, 1) := by decide +kernel
theorem dX10_alike_43 : decode cX10_alike 43 = .ok (.istore 6, 2) := by decide +kernel
theorem dX10_alike_45 : decode cX10_alike 45 = .ok (.iconst 0, 1) := by decide +kernel
theorem dX10_alike_46 : decode cX10_alike 46 = .ok (.istore 7, 2) := by decide +kernel
theorem dX10_alike_48 : decode cX10_alike 48 = .ok (.iload 7, 2) := by decide +kernel
theorem dX10_alike_50 : decode cX10_alike 50 = .ok (.aload_n 0, 1) := by decide +kernel
theorem dX10_alike_51 : decode cX10_alike 51 = .ok (.invokevirtual 74, 3) := by decide +kernel
theorem dX10_alike_54 : decode cX10_alike 54 = .ok (.if_icmp .ge 58, 3) := by decide +kernel
theorem dX10_alike_57 : decode cX10_alike 57 = .ok (.iload 6, 2) := by decide +kernel
theorem dX10_alike_59 : decode cX10_alike 59 = .ok (.ifCond .eq 44, 3) := by decide +kernel
theorem dX10_alike_62 : decode cX10_alike 62 = .ok (.iload_n 2, 1) := by decide +kernel
theorem dX10_alike_63 : decode cX10_alike 63 = .ok (.iload 7, 2) := by decide +kernel
theorem dX10_alike_65 : decode cX10_alike 65 = .ok (.ishr, 1) := by decide +kernel
theorem dX10_alike_66 : decode cX10_alike 66 = .ok (.iconst 1, 1) := by decide +kernel
theorem dX10_alike_67 : decode cX10_alike 67 = .ok (.iand, 1) := by decide +kernel
theorem dX10_alike_68 : decode cX10_alike 68 = .ok (.ifCond .eq 31, 3) := by decide +kernel
theorem dX10_alike_71 : decode cX10_alike 71 = .ok (.aload_n 0, 1) := by decide +kernel
theorem dX10_alike_72 : decode cX10_alike 72 = .ok (.iload 7, 2) := by decide +kernel
theorem dX10_alike_74 : decode cX10_alike 74 = .ok (.invokevirtual 270, 3) := by decide +kernel
theorem dX10_alike_77 : decode cX10_alike 77 = .ok (.ifCond .eq 22, 3) := by decide +kernel
theorem dX10_alike_80 : decode cX10_alike 80 = .ok (.aload_n 0, 1) := by decide +kernel
theorem dX10_alike_81 : decode cX10_alike 81 = .ok (.iload 7, 2) := by decide +kernel
theorem dX10_alike_83 : decode cX10_alike 83 = .ok (.iload 5, 2) := by decide +kernel
theorem dX10_alike_85 : decode cX10_alike 85 = .ok (.invokevirtual 234, 3) := by decide +kernel
theorem dX10_alike_88 : decode cX10_alike 88 = .ok (.aload_n 0, 1) := by decide +kernel
theorem dX10_alike_89 : decode cX10_alike 89 = .ok (.iload 7, 2) := by decide +kernel
theorem dX10_alike_91 : decode cX10_alike 91 = .ok (.iload_n 1, 1) := by decide +kernel
theorem dX10_alike_92 : decode cX10_alike 92 = .ok (.invokevirtual 234, 3) := by decide +kernel
theorem dX10_alike_95 : decode cX10_alike 95 = .ok (.lcmp, 1) := by decide +kernel
theorem dX10_alike_96 : decode cX10_alike 96 = .ok (.ifCond .ne 7, 3) := by decide +kernel
theorem dX10_alike_99 : decode cX10_alike 99 = .ok (.iconst 1, 1) := by decide +kernel
theorem dX10_alike_100 : decode cX10_alike 100 = .ok (.goto 4, 3) := by decide +kernel
theorem dX10_alike_103 : decode cX10_alike 103 = .ok (.iconst 0, 1) := by decide +kernel
theorem dX10_alike_104 : decode cX10_alike 104 = .ok (.istore 6, 2) := by decide +kernel
theorem dX10_alike_106 : decode cX10_alike 106 = .ok (.iinc 7 1, 3) := by decide +kernel
theorem dX10_alike_109 : decode cX10_alike 109 = .ok (.goto (-61), 3) := by decide +kernel
theorem dX10_alike_112 : decode cX10_alike 112 = .ok (.iload_n 3, 1) := by decide +kernel
theorem dX10_alike_113 : decode cX10_alike 113 = .ok (.iload 6, 2) := by decide +kernel
theorem dX10_alike_115 : decode cX10_alike 115 = .ok (.ifCond .eq 10, 3) := by decide +kernel
theorem dX10_alike_118 : decode cX10_alike 118 = .ok (.iconst 1, 1) := by decide +kernel
theorem dX10_alike_119 : decode cX10_alike 119 = .ok (.iload 5, 2) := by decide +kernel
theorem dX10_alike_121 : decode cX10_alike 121 = .ok (.ishl, 1) := by decide +kernel
theorem dX10_alike_122 : decode cX10_alike 122 = .ok (.goto 4, 3) := by decide +kernel
theorem dX10_alike_125 : decode cX10_alike 125 = .ok (.iconst 0, 1) := by decide +kernel
theorem dX10_alike_126 : decode cX10_alike 126 = .ok (.ior, 1) := by decide +kernel
theorem dX10_alike_127 : decode cX10_alike 127 = .ok (.istore_n 3, 1) := by decide +kernel
theorem dX10_alike_128 : decode cX10_alike 128 = .ok (.iload 4, 2) := by decide +kernel
theorem dX10_alike_130 : decode cX10_alike 130 = .ok (.iload 6, 2) := by decide +kernel
theorem dX10_alike_132 : decode cX10_alike 132 = .ok (.ifCond .eq 7, 3) := by decide +kernel
theorem dX10_alike_135 : decode cX10_alike 135 = .ok (.iconst 1, 1) := by decide +kernel
theorem dX10_alike_136 : decode cX10_alike 136 = .ok (.goto 4, 3) := by decide +kernel
theorem dX10_alike_139 : decode cX10_alike 139 = .ok (.iconst 0, 1) := by decide +kernel
theorem dX10_alike_140 : decode cX10_alike 140 = .ok (.iadd, 1) := by decide +kernel
theorem dX10_alike_141 : decode cX10_alike 141 = .ok (.istore 4, 2) := by decide +kernel
theorem dX10_alike_143 : decode cX10_alike 143 = .ok (.iinc 5 1, 3) := by decide +kernel
theorem dX10_alike_146 : decode cX10_alike 146 = .ok (.goto (-113), 3) := by decide +kernel
theorem dX10_alike_149 : decode cX10_alike 149 = .ok (.aload_n 0, 1) := by decide +kernel
theorem dX10_alike_150 : decode cX10_alike 150 = .ok (.iconst 0, 1) := by decide +kernel
theorem dX10_alike_151 : decode cX10_alike 151 = .ok (.putfield 71, 3) := by decide +kernel
theorem dX10_alike_154 : decode cX10_alike 154 = .ok (.aload_n 0, 1) := by decide +kernel
theorem dX10_alike_155 : decode cX10_alike 155 = .ok (.iload_n 3, 1) := by decide +kernel
theorem dX10_alike_156 : decode cX10_alike 156 = .ok (.i2l, 1) := by decide +kernel
