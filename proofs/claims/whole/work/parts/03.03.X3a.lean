set_option maxRecDepth 20000 in
theorem ggX3_ofLetter_J0_indexOf_0f7a4 : GoodIn wsX3_ofLetter wsJ0_indexOf_0f7a4 := goodIn_r _ [5, 6, 7, 8, 4, 9, 10, 11, 12, 13, 14, 15, 16, 17, 18, 19, 20, 21, 22, 23, 24, 25, 26, 27, 28, 29, 30, 31, 32, 33, 34, 35, 36, 37, 38, 39, 40, 41, 42, 43, 44, 45, 46, 47, 48, 49, 50, 51, 52, 53, 54, 55, 56, 57, 58, 59, 60, 61, 62, 63, 64, 65, 66, 67, 68, 69, 70, 71, 72, 73, 74, 75, 76, 77, 78, 79, 80, 81, 82, 83, 84, 85, 86, 87, 88, 89] (by decide +kernel) (by decide +kernel)
set_option maxRecDepth 20000 in
theorem gX3_ofLetter_J0_indexOf_0f7a4 : GoodIn wsX3_ofLetter (wsV RX3 11 RJ0 yJ0_indexOf_0f7a4 wsJ0_indexOf_0f7a4) := goodIn_app (goodIn_of _ (by decide +kernel)) ggX3_ofLetter_J0_indexOf_0f7a4
theorem dX3_ofLetter_0 : decode cX3_ofLetter 0 = .ok (.ldc 9, 2) := by decide +kernel
theorem dX3_ofLetter_2 : decode cX3_ofLetter 2 = .ok (.iload_n 0, 1) := by decide +kernel
theorem dX3_ofLetter_3 : decode cX3_ofLetter 3 = .ok (.invokevirtual 11, 3) := by decide +kernel
theorem dX3_ofLetter_6 : decode cX3_ofLetter 6 = .ok (.ireturn, 1) := by decide +kernel
theorem dX3_isNumberWay_0 : decode cX3_isNumberWay 0 = .ok (.iload_n 0, 1) := by decide +kernel
theorem dX3_isNumberWay_1 : decode cX3_isNumberWay 1 = .ok (.ifCond .lt 13, 3) := by decide +kernel
theorem dX3_isNumberWay_4 : decode cX3_isNumberWay 4 = .ok (.iload_n 0, 1) := by decide +kernel
theorem dX3_isNumberWay_5 : decode cX3_isNumberWay 5 = .ok (.bipush 7, 2) := by decide +kernel
theorem dX3_isNumberWay_7 : decode cX3_isNumberWay 7 = .ok (.if_icmp .gt 7, 3) := by decide +kernel
theorem dX3_isNumberWay_10 : decode cX3_isNumberWay 10 = .ok (.iconst 1, 1) := by decide +kernel
theorem dX3_isNumberWay_11 : decode cX3_isNumberWay 11 = .ok (.goto 4, 3) := by decide +kernel
theorem dX3_isNumberWay_14 : decode cX3_isNumberWay 14 = .ok (.iconst 0, 1) := by decide +kernel
theorem dX3_isNumberWay_15 : decode cX3_isNumberWay 15 = .ok (.ireturn, 1) := by decide +kernel
set_option maxRecDepth 20000 in
theorem ggX3_puts_X3_isNumberWay : GoodIn wsX3_puts wsX3_isNumberWay := goodIn_r _ [4] (by decide +kernel) (by decide +kernel)
set_option maxRecDepth 20000 in
theorem gX3_puts_X3_isNumberWay : GoodIn wsX3_puts (va_wsS RX3 17 yX3_isNumberWay wsX3_isNumberWay) := goodIn_app (goodIn_of _ (by decide +kernel)) ggX3_puts_X3_isNumberWay
theorem dX3_puts_0 : decode cX3_puts 0 = .ok (.iload_n 0, 1) := by decide +kernel
theorem dX3_puts_1 : decode cX3_puts 1 = .ok (.invokestatic 17, 3) := by decide +kernel
theorem dX3_puts_4 : decode cX3_puts 4 = .ok (.ifCond .ne 15, 3) := by decide +kernel
theorem dX3_puts_7 : decode cX3_puts 7 = .ok (.iload_n 0, 1) := by decide +kernel
theorem dX3_puts_8 : decode cX3_puts 8 = .ok (.bipush 10, 2) := by decide +kernel
theorem dX3_puts_10 : decode cX3_puts 10 = .ok (.if_icmp .lt 13, 3) := by decide +kernel
theorem dX3_puts_13 : decode cX3_puts 13 = .ok (.iload_n 0, 1) := by decide +kernel
theorem dX3_puts_14 : decode cX3_puts 14 = .ok (.bipush 21, 2) := by decide +kernel
theorem dX3_puts_16 : decode cX3_puts 16 = .ok (.if_icmp .gt 7, 3) := by decide +kernel
theorem dX3_puts_19 : decode cX3_puts 19 = .ok (.iconst 1, 1) := by decide +kernel
theorem dX3_puts_20 : decode cX3_puts 20 = .ok (.goto 4, 3) := by decide +kernel
theorem dX3_puts_23 : decode cX3_puts 23 = .ok (.iconst 0, 1) := by decide +kernel
theorem dX3_puts_24 : decode cX3_puts 24 = .ok (.ireturn, 1) := by decide +kernel
set_option maxRecDepth 20000 in
theorem ggX3_takes_X3_isNumberWay : GoodIn wsX3_takes wsX3_isNumberWay := goodIn_r _ [4] (by decide +kernel) (by decide +kernel)
set_option maxRecDepth 20000 in
theorem gX3_takes_X3_isNumberWay : GoodIn wsX3_takes (va_wsS RX3 17 yX3_isNumberWay wsX3_isNumberWay) := goodIn_app (goodIn_of _ (by decide +kernel)) ggX3_takes_X3_isNumberWay
theorem dX3_takes_0 : decode cX3_takes 0 = .ok (.iload_n 0, 1) := by decide +kernel
theorem dX3_takes_1 : decode cX3_takes 1 = .ok (.invokestatic 17, 3) := by decide +kernel
theorem dX3_takes_4 : decode cX3_takes 4 = .ok (.ifCond .ne 9, 3) := by decide +kernel
theorem dX3_takes_7 : decode cX3_takes 7 = .ok (.iload_n 0, 1) := by decide +kernel
theorem dX3_takes_8 : decode cX3_takes 8 = .ok (.bipush 10, 2) := by decide +kernel
theorem dX3_takes_10 : decode cX3_takes 10 = .ok (.if_icmp .ne 7, 3) := by decide +kernel
theorem dX3_takes_13 : decode cX3_takes 13 = .ok (.iconst 1, 1) := by decide +kernel
theorem dX3_takes_14 : decode cX3_takes 14 = .ok (.goto 4, 3) := by decide +kernel
theorem dX3_takes_17 : decode cX3_takes 17 = .ok (.iconst 0, 1) := by decide +kernel
theorem dX3_takes_18 : decode cX3_takes 18 = .ok (.ireturn, 1) := by decide +kernel
theorem dX3_mayBeNothing_0 : decode cX3_mayBeNothing 0 = .ok (.iload_n 0, 1) := by decide +kernel
theorem dX3_mayBeNothing_1 : decode cX3_mayBeNothing 1 = .ok (.bipush 8, 2) := by decide +kernel
theorem dX3_mayBeNothing_3 : decode cX3_mayBeNothing 3 = .ok (.if_icmp .lt 13, 3) := by decide +kernel
theorem dX3_mayBeNothing_6 : decode cX3_mayBeNothing 6 = .ok (.iload_n 0, 1) := by decide +kernel
theorem dX3_mayBeNothing_7 : decode cX3_mayBeNothing 7 = .ok (.bipush 10, 2) := by decide +kernel
theorem dX3_mayBeNothing_9 : decode cX3_mayBeNothing 9 = .ok (.if_icmp .gt 7, 3) := by decide +kernel
theorem dX3_mayBeNothing_12 : decode cX3_mayBeNothing 12 = .ok (.iconst 1, 1) := by decide +kernel
theorem dX3_mayBeNothing_13 : decode cX3_mayBeNothing 13 = .ok (.goto 4, 3) := by decide +kernel
theorem dX3_mayBeNothing_16 : decode cX3_mayBeNothing 16 = .ok (.iconst 0, 1) := by decide +kernel
theorem dX3_mayBeNothing_17 : decode cX3_mayBeNothing 17 = .ok (.ireturn, 1) := by decide +kernel
set_option maxRecDepth 20000 in
theorem ggX3_widens_X3_isNumberWay : GoodIn wsX3_widens wsX3_isNumberWay := goodIn_r _ [5] (by decide +kernel) (by decide +kernel)
set_option maxRecDepth 20000 in
theorem gX3_widens_X3_isNumberWay : GoodIn wsX3_widens (va_wsS RX3 17 yX3_isNumberWay wsX3_isNumberWay) := goodIn_app (goodIn_of _ (by decide +kernel)) ggX3_widens_X3_isNumberWay
theorem dX3_widens_0 : decode cX3_widens 0 = .ok (.iload_n 0, 1) := by decide +kernel
theorem dX3_widens_1 : decode cX3_widens 1 = .ok (.invokestatic 17, 3) := by decide +kernel
theorem dX3_widens_4 : decode cX3_widens 4 = .ok (.ifCond .eq 26, 3) := by decide +kernel
theorem dX3_widens_7 : decode cX3_widens 7 = .ok (.iload_n 1, 1) := by decide +kernel
theorem dX3_widens_8 : decode cX3_widens 8 = .ok (.invokestatic 17, 3) := by decide +kernel
theorem dX3_widens_11 : decode cX3_widens 11 = .ok (.ifCond .eq 19, 3) := by decide +kernel
theorem dX3_widens_14 : decode cX3_widens 14 = .ok (.getstatic 21, 3) := by decide +kernel
theorem dX3_widens_17 : decode cX3_widens 17 = .ok (.iload_n 0, 1) := by decide +kernel
theorem dX3_widens_18 : decode cX3_widens 18 = .ok (.iaload, 1) := by decide +kernel
theorem dX3_widens_19 : decode cX3_widens 19 = .ok (.iload_n 1, 1) := by decide +kernel
theorem dX3_widens_20 : decode cX3_widens 20 = .ok (.ishr, 1) := by decide +kernel
theorem dX3_widens_21 : decode cX3_widens 21 = .ok (.iconst 1, 1) := by decide +kernel
theorem dX3_widens_22 : decode cX3_widens 22 = .ok (.iand, 1) := by decide +kernel
theorem dX3_widens_23 : decode cX3_widens 23 = .ok (.ifCond .eq 7, 3) := by decide +kernel
theorem dX3_widens_26 : decode cX3_widens 26 = .ok (.iconst 1, 1) := by decide +kernel
theorem dX3_widens_27 : decode cX3_widens 27 = .ok (.goto 4, 3) := by decide +kernel
theorem dX3_widens_30 : decode cX3_widens 30 = .ok (.iconst 0, 1) := by decide +kernel
theorem dX3_widens_31 : decode cX3_widens 31 = .ok (.ireturn, 1) := by decide +kernel
theorem dX3_toldKind_0 : decode cX3_toldKind 0 = .ok (.iload_n 0, 1) := by decide +kernel
theorem dX3_toldKind_1 : decode cX3_toldKind 1 = .ok (.tableswitch 42 18 21 #[31, 33, 36, 39], 31) := by decide +kernel
theorem dX3_toldKind_32 : decode cX3_toldKind 32 = .ok (.iconst 4, 1) := by decide +kernel
theorem dX3_toldKind_33 : decode cX3_toldKind 33 = .ok (.ireturn, 1) := by decide +kernel
theorem dX3_toldKind_34 : decode cX3_toldKind 34 = .ok (.bipush 9, 2) := by decide +kernel
theorem dX3_toldKind_36 : decode cX3_toldKind 36 = .ok (.ireturn, 1) := by decide +kernel
theorem dX3_toldKind_37 : decode cX3_toldKind 37 = .ok (.bipush 10, 2) := by decide +kernel
theorem dX3_toldKind_39 : decode cX3_toldKind 39 = .ok (.ireturn, 1) := by decide +kernel
theorem dX3_toldKind_40 : decode cX3_toldKind 40 = .ok (.bipush 14, 2) := by decide +kernel
theorem dX3_toldKind_42 : decode cX3_toldKind 42 = .ok (.ireturn, 1) := by decide +kernel
theorem dX3_toldKind_43 : decode cX3_toldKind 43 = .ok (.iload_n 0, 1) := by decide +kernel
theorem dX3_toldKind_44 : decode cX3_toldKind 44 = .ok (.bipush 10, 2) := by decide +kernel
theorem dX3_toldKind_46 : decode cX3_toldKind 46 = .ok (.if_icmp .lt 10, 3) := by decide +kernel
theorem dX3_toldKind_49 : decode cX3_toldKind 49 = .ok (.iload_n 0, 1) := by decide +kernel
theorem dX3_toldKind_50 : decode cX3_toldKind 50 = .ok (.bipush 10, 2) := by decide +kernel
theorem dX3_toldKind_52 : decode cX3_toldKind 52 = .ok (.isub, 1) := by decide +kernel
theorem dX3_toldKind_53 : decode cX3_toldKind 53 = .ok (.goto 4, 3) := by decide +kernel
theorem dX3_toldKind_56 : decode cX3_toldKind 56 = .ok (.iload_n 0, 1) := by decide +kernel
theorem dX3_toldKind_57 : decode cX3_toldKind 57 = .ok (.ireturn, 1) := by decide +kernel
set_option maxRecDepth 20000 in
theorem ggX3_told_X3_toldKind : GoodIn wsX3_told wsX3_toldKind := goodIn_r _ [7] (by decide +kernel) (by decide +kernel)
set_option maxRecDepth 20000 in
theorem gX3_told_X3_toldKind : GoodIn wsX3_told (va_wsS RX3 25 yX3_toldKind wsX3_toldKind) := goodIn_app (goodIn_of _ (by decide +kernel)) ggX3_told_X3_toldKind
set_option maxRecDepth 20000 in
theorem ggX3_told_X1_nearestFloat : GoodIn wsX3_told wsX1_nearestFloat := goodIn_r _ [11, 12, 13, 14, 10, 15, 16, 17, 18, 19, 20, 21, 22, 23, 24] (by decide +kernel) (by decide +kernel)
set_option maxRecDepth 20000 in
theorem gX3_told_X1_nearestFloat : GoodIn wsX3_told (va_wsS RX3 30 yX1_nearestFloat wsX1_nearestFloat) := goodIn_app (goodIn_of _ (by decide +kernel)) ggX3_told_X1_nearestFloat
set_option maxRecDepth 20000 in
theorem ggX3_told_X1_nearestDouble : GoodIn wsX3_told wsX1_nearestDouble := goodIn_r _ [27, 28, 13, 14, 10, 15, 16, 17, 18, 19, 20, 21, 22, 23, 24] (by decide +kernel) (by decide +kernel)
set_option maxRecDepth 20000 in
theorem gX3_told_X1_nearestDouble : GoodIn wsX3_told (va_wsS RX3 36 yX1_nearestDouble wsX1_nearestDouble) := goodIn_app (goodIn_of _ (by decide +kernel)) ggX3_told_X1_nearestDouble
set_option maxRecDepth 20000 in
theorem ggX3_told_X3_textNumber : GoodIn wsX3_told wsX3_textNumber := goodIn_r _ [31] (by decide +kernel) (by decide +kernel)
set_option maxRecDepth 20000 in
theorem gX3_told_X3_textNumber : GoodIn wsX3_told (va_wsS RX3 40 yX3_textNumber wsX3_textNumber) := goodIn_app (goodIn_of _ (by decide +kernel)) ggX3_told_X3_textNumber
theorem dX3_told_0 : decode cX3_told 0 = .ok (.iload_n 0, 1) := by decide +kernel
theorem dX3_told_1 : decode cX3_told 1 = .ok (.invokestatic 25, 3) := by decide +kernel
theorem dX3_told_4 : decode cX3_told 4 = .ok (.tableswitch 126 0 14 #[76, 81, 85, 89, 126, 93, 100, 107, 126, 114, 126, 126, 126, 126, 122], 76) := by decide +kernel
theorem dX3_told_80 : decode cX3_told 80 = .ok (.iload_n 1, 1) := by decide +kernel
theorem dX3_told_81 : decode cX3_told 81 = .ok (.iconst 1, 1) := by decide +kernel
theorem dX3_told_82 : decode cX3_told 82 = .ok (.iand, 1) := by decide +kernel
theorem dX3_told_83 : decode cX3_told 83 = .ok (.i2l, 1) := by decide +kernel
theorem dX3_told_84 : decode cX3_told 84 = .ok (.lreturn, 1) := by decide +kernel
theorem dX3_told_85 : decode cX3_told 85 = .ok (.iload_n 1, 1) := by decide +kernel
theorem dX3_told_86 : decode cX3_told 86 = .ok (.i2b, 1) := by decide +kernel
theorem dX3_told_87 : decode cX3_told 87 = .ok (.i2l, 1) := by decide +kernel
theorem dX3_told_88 : decode cX3_told 88 = .ok (.lreturn, 1) := by decide +kernel
theorem dX3_told_89 : decode cX3_told 89 = .ok (.iload_n 1, 1) := by decide +kernel
theorem dX3_told_90 : decode cX3_told 90 = .ok (.i2c, 1) := by decide +kernel
theorem dX3_told_91 : decode cX3_told 91 = .ok (.i2l, 1) := by decide +kernel
theorem dX3_told_92 : decode cX3_told 92 = .ok (.lreturn, 1) := by decide +kernel
theorem dX3_told_93 : decode cX3_told 93 = .ok (.iload_n 1, 1) := by decide +kernel
theorem dX3_told_94 : decode cX3_told 94 = .ok (.i2s, 1) := by decide +kernel
theorem dX3_told_95 : decode cX3_told 95 = .ok (.i2l, 1) := by decide +kernel
theorem dX3_told_96 : decode cX3_told 96 = .ok (.lreturn, 1) := by decide +kernel
theorem dX3_told_97 : decode cX3_told 97 = .ok (.iload_n 1, 1) := by decide +kernel
theorem dX3_told_98 : decode cX3_told 98 = .ok (.i2l, 1) := by decide +kernel
theorem dX3_told_99 : decode cX3_told 99 = .ok (.ldc2_w 28, 3) := by decide +kernel
theorem dX3_told_102 : decode cX3_told 102 = .ok (.lmul, 1) := by decide +kernel
theorem dX3_told_103 : decode cX3_told 103 = .ok (.lreturn, 1) := by decide +kernel
theorem dX3_told_104 : decode cX3_told 104 = .ok (.iload_n 1, 1) := by decide +kernel
theorem dX3_told_105 : decode cX3_told 105 = .ok (.i2l, 1) := by decide +kernel
theorem dX3_told_106 : decode cX3_told 106 = .ok (.iconst 2, 1) := by decide +kernel
theorem dX3_told_107 : decode cX3_told 107 = .ok (.invokestatic 30, 3) := by decide +kernel
theorem dX3_told_110 : decode cX3_told 110 = .ok (.lreturn, 1) := by decide +kernel
theorem dX3_told_111 : decode cX3_told 111 = .ok (.iload_n 1, 1) := by decide +kernel
theorem dX3_told_112 : decode cX3_told 112 = .ok (.i2l, 1) := by decide +kernel
theorem dX3_told_113 : decode cX3_told 113 = .ok (.iconst 3, 1) := by decide +kernel
theorem dX3_told_114 : decode cX3_told 114 = .ok (.invokestatic 36, 3) := by decide +kernel
theorem dX3_told_117 : decode cX3_told 117 = .ok (.lreturn, 1) := by decide +kernel
theorem dX3_told_118 : decode cX3_told 118 = .ok (.iload_n 1, 1) := by decide +kernel
theorem dX3_told_119 : decode cX3_told 119 = .ok (.ldc 39, 2) := by decide +kernel
theorem dX3_told_121 : decode cX3_told 121 = .ok (.iand, 1) := by decide +kernel
theorem dX3_told_122 : decode cX3_told 122 = .ok (.invokestatic 40, 3) := by decide +kernel
theorem dX3_told_125 : decode cX3_told 125 = .ok (.lreturn, 1) := by decide +kernel
theorem dX3_told_126 : decode cX3_told 126 = .ok (.ldc2_w 44, 3) := by decide +kernel
theorem dX3_told_129 : decode cX3_told 129 = .ok (.lreturn, 1) := by decide +kernel
theorem dX3_told_130 : decode cX3_told 130 = .ok (.iload_n 1, 1) := by decide +kernel
theorem dX3_told_131 : decode cX3_told 131 = .ok (.i2l, 1) := by decide +kernel
theorem dX3_told_132 : decode cX3_told 132 = .ok (.lreturn, 1) := by decide +kernel
theorem dX3_textNumber_0 : decode cX3_textNumber 0 = .ok (.iload_n 0, 1) := by decide +kernel
theorem dX3_textNumber_1 : decode cX3_textNumber 1 = .ok (.bipush 26, 2) := by decide +kernel
theorem dX3_textNumber_3 : decode cX3_textNumber 3 = .ok (.irem, 1) := by decide +kernel
theorem dX3_textNumber_4 : decode cX3_textNumber 4 = .ok (.bipush 26, 2) := by decide +kernel
theorem dX3_textNumber_6 : decode cX3_textNumber 6 = .ok (.iload_n 0, 1) := by decide +kernel
theorem dX3_textNumber_7 : decode cX3_textNumber 7 = .ok (.bipush 26, 2) := by decide +kernel
theorem dX3_textNumber_9 : decode cX3_textNumber 9 = .ok (.idiv, 1) := by decide +kernel
theorem dX3_textNumber_10 : decode cX3_textNumber 10 = .ok (.iconst 3, 1) := by decide +kernel
theorem dX3_textNumber_11 : decode cX3_textNumber 11 = .ok (.irem, 1) := by decide +kernel
theorem dX3_textNumber_12 : decode cX3_textNumber 12 = .ok (.imul, 1) := by decide +kernel
theorem dX3_textNumber_13 : decode cX3_textNumber 13 = .ok (.iadd, 1) := by decide +kernel
theorem dX3_textNumber_14 : decode cX3_textNumber 14 = .ok (.i2l, 1) := by decide +kernel
theorem dX3_textNumber_15 : decode cX3_textNumber 15 = .ok (.lreturn, 1) := by decide +kernel
set_option maxRecDepth 20000 in
theorem ggX3_fits_X3_widens : GoodIn wsX3_fits wsX3_widens := goodIn_r _ [4, 5, 6, 7, 3, 8] (by decide +kernel) (by decide +kernel)
set_option maxRecDepth 20000 in
theorem gX3_fits_X3_widens : GoodIn wsX3_fits (va_wsS RX3 46 yX3_widens wsX3_widens) := goodIn_app (goodIn_of _ (by decide +kernel)) ggX3_fits_X3_widens
theorem dX3_fits_0 : decode cX3_fits 0 = .ok (.iload_n 1, 1) := by decide +kernel
theorem dX3_fits_1 : decode cX3_fits 1 = .ok (.bipush 7, 2) := by decide +kernel
theorem dX3_fits_3 : decode cX3_fits 3 = .ok (.if_icmp .gt 9, 3) := by decide +kernel
theorem dX3_fits_6 : decode cX3_fits 6 = .ok (.iload_n 0, 1) := by decide +kernel
theorem dX3_fits_7 : decode cX3_fits 7 = .ok (.iload_n 1, 1) := by decide +kernel
theorem dX3_fits_8 : decode cX3_fits 8 = .ok (.invokestatic 46, 3) := by decide +kernel
theorem dX3_fits_11 : decode cX3_fits 11 = .ok (.ireturn, 1) := by decide +kernel
theorem dX3_fits_12 : decode cX3_fits 12 = .ok (.iload_n 0, 1) := by decide +kernel
theorem dX3_fits_13 : decode cX3_fits 13 = .ok (.bipush 14, 2) := by decide +kernel
theorem dX3_fits_15 : decode cX3_fits 15 = .ok (.if_icmp .ne 5, 3) := by decide +kernel
theorem dX3_fits_18 : decode cX3_fits 18 = .ok (.iconst 1, 1) := by decide +kernel
theorem dX3_fits_19 : decode cX3_fits 19 = .ok (.ireturn, 1) := by decide +kernel
theorem dX3_fits_20 : decode cX3_fits 20 = .ok (.iload_n 1, 1) := by decide +kernel
theorem dX3_fits_21 : decode cX3_fits 21 = .ok (.bipush 8, 2) := by decide +kernel
theorem dX3_fits_23 : decode cX3_fits 23 = .ok (.if_icmp .ne 16, 3) := by decide +kernel
theorem dX3_fits_26 : decode cX3_fits 26 = .ok (.iload_n 0, 1) := by decide +kernel
theorem dX3_fits_27 : decode cX3_fits 27 = .ok (.iconst 4, 1) := by decide +kernel
theorem dX3_fits_28 : decode cX3_fits 28 = .ok (.if_icmp .ne 7, 3) := by decide +kernel
theorem dX3_fits_31 : decode cX3_fits 31 = .ok (.iconst 1, 1) := by decide +kernel
theorem dX3_fits_32 : decode cX3_fits 32 = .ok (.goto 17, 3) := by decide +kernel
theorem dX3_fits_35 : decode cX3_fits 35 = .ok (.iconst 0, 1) := by decide +kernel
theorem dX3_fits_36 : decode cX3_fits 36 = .ok (.goto 13, 3) := by decide +kernel
theorem dX3_fits_39 : decode cX3_fits 39 = .ok (.iload_n 0, 1) := by decide +kernel
theorem dX3_fits_40 : decode cX3_fits 40 = .ok (.iload_n 1, 1) := by decide +kernel
theorem dX3_fits_41 : decode cX3_fits 41 = .ok (.if_icmp .ne 7, 3) := by decide +kernel
theorem dX3_fits_44 : decode cX3_fits 44 = .ok (.iconst 1, 1) := by decide +kernel
theorem dX3_fits_45 : decode cX3_fits 45 = .ok (.goto 4, 3) := by decide +kernel
theorem dX3_fits_48 : decode cX3_fits 48 = .ok (.iconst 0, 1) := by decide +kernel
theorem dX3_fits_49 : decode cX3_fits 49 = .ok (.ireturn, 1) := by decide +kernel
theorem dX3_ownWay_0 : decode cX3_ownWay 0 = .ok (.iload_n 0, 1) := by decide +kernel
theorem dX3_ownWay_1 : decode cX3_ownWay 1 = .ok (.bipush 7, 2) := by decide +kernel
theorem dX3_ownWay_3 : decode cX3_ownWay 3 = .ok (.if_icmp .gt 8, 3) := by decide +kernel
theorem dX3_ownWay_6 : decode cX3_ownWay 6 = .ok (.bipush 10, 2) := by decide +kernel
theorem dX3_ownWay_8 : decode cX3_ownWay 8 = .ok (.iload_n 0, 1) := by decide +kernel
theorem dX3_ownWay_9 : decode cX3_ownWay 9 = .ok (.iadd, 1) := by decide +kernel
theorem dX3_ownWay_10 : decode cX3_ownWay 10 = .ok (.ireturn, 1) := by decide +kernel
theorem dX3_ownWay_11 : decode cX3_ownWay 11 = .ok (.lload_n 1, 1) := by decide +kernel
theorem dX3_ownWay_12 : decode cX3_ownWay 12 = .ok (.ldc2_w 44, 3) := by decide +kernel
theorem dX3_ownWay_15 : decode cX3_ownWay 15 = .ok (.lcmp, 1) := by decide +kernel
theorem dX3_ownWay_16 : decode cX3_ownWay 16 = .ok (.ifCond .ne 6, 3) := by decide +kernel
theorem dX3_ownWay_19 : decode cX3_ownWay 19 = .ok (.bipush 21, 2) := by decide +kernel
theorem dX3_ownWay_21 : decode cX3_ownWay 21 = .ok (.ireturn, 1) := by decide +kernel
theorem dX3_ownWay_22 : decode cX3_ownWay 22 = .ok (.iload_n 0, 1) := by decide +kernel
theorem dX3_ownWay_23 : decode cX3_ownWay 23 = .ok (.bipush 8, 2) := by decide +kernel
theorem dX3_ownWay_25 : decode cX3_ownWay 25 = .ok (.if_icmp .ne 8, 3) := by decide +kernel
theorem dX3_ownWay_28 : decode cX3_ownWay 28 = .ok (.bipush 14, 2) := by decide +kernel
theorem dX3_ownWay_30 : decode cX3_ownWay 30 = .ok (.goto 16, 3) := by decide +kernel
theorem dX3_ownWay_33 : decode cX3_ownWay 33 = .ok (.iload_n 0, 1) := by decide +kernel
theorem dX3_ownWay_34 : decode cX3_ownWay 34 = .ok (.bipush 9, 2) := by decide +kernel
theorem dX3_ownWay_36 : decode cX3_ownWay 36 = .ok (.if_icmp .ne 8, 3) := by decide +kernel
theorem dX3_ownWay_39 : decode cX3_ownWay 39 = .ok (.bipush 19, 2) := by decide +kernel
theorem dX3_ownWay_41 : decode cX3_ownWay 41 = .ok (.goto 5, 3) := by decide +kernel
theorem dX3_ownWay_44 : decode cX3_ownWay 44 = .ok (.bipush 20, 2) := by decide +kernel
theorem dX3_ownWay_46 : decode cX3_ownWay 46 = .ok (.ireturn, 1) := by decide +kernel
set_option maxRecDepth 20000 in
theorem ggX3_widened_X1_doubleOfFloat : GoodIn wsX3_widened wsX1_doubleOfFloat := goodIn_r _ [4, 5, 6, 7, 8, 9] (by decide +kernel) (by decide +kernel)
set_option maxRecDepth 20000 in
theorem gX3_widened_X1_doubleOfFloat : GoodIn wsX3_widened (va_wsS RX3 50 yX1_doubleOfFloat wsX1_doubleOfFloat) := goodIn_app (goodIn_of _ (by decide +kernel)) ggX3_widened_X1_doubleOfFloat
set_option maxRecDepth 20000 in
theorem ggX3_widened_X1_nearestFloat : GoodIn wsX3_widened wsX1_nearestFloat := goodIn_r _ [12, 13, 14, 15, 3, 16, 17, 18, 19, 20, 21, 22, 23, 24, 25] (by decide +kernel) (by decide +kernel)
set_option maxRecDepth 20000 in
theorem gX3_widened_X1_nearestFloat : GoodIn wsX3_widened (va_wsS RX3 30 yX1_nearestFloat wsX1_nearestFloat) := goodIn_app (goodIn_of _ (by decide +kernel)) ggX3_widened_X1_nearestFloat
set_option maxRecDepth 20000 in
theorem ggX3_widened_X1_nearestDouble : GoodIn wsX3_widened wsX1_nearestDouble := goodIn_r _ [28, 9, 14, 15, 3, 16, 17, 18, 19, 20, 21, 22, 23, 24, 25] (by decide +kernel) (by decide +kernel)
set_option maxRecDepth 20000 in
theorem gX3_widened_X1_nearestDouble : GoodIn wsX3_widened (va_wsS RX3 36 yX1_nearestDouble wsX1_nearestDouble) := goodIn_app (goodIn_of _ (by decide +kernel)) ggX3_widened_X1_nearestDouble
theorem dX3_widened_0 : decode cX3_widened 0 = .ok (.iload_n 0, 1) := by decide +kernel
theorem dX3_widened_1 : decode cX3_widened 1 = .ok (.iload_n 1, 1) := by decide +kernel
theorem dX3_widened_2 : decode cX3_widened 2 = .ok (.if_icmp .eq 15, 3) := by decide +kernel
theorem dX3_widened_5 : decode cX3_widened 5 = .ok (.iload_n 1, 1) := by decide +kernel
theorem dX3_widened_6 : decode cX3_widened 6 = .ok (.bipush 6, 2) := by decide +kernel
theorem dX3_widened_8 : decode cX3_widened 8 = .ok (.if_icmp .eq 11, 3) := by decide +kernel
theorem dX3_widened_11 : decode cX3_widened 11 = .ok (.iload_n 1, 1) := by decide +kernel
theorem dX3_widened_12 : decode cX3_widened 12 = .ok (.bipush 7, 2) := by decide +kernel
theorem dX3_widened_14 : decode cX3_widened 14 = .ok (.if_icmp .eq 5, 3) := by decide +kernel
theorem dX3_widened_17 : decode cX3_widened 17 = .ok (.lload_n 2, 1) := by decide +kernel
theorem dX3_widened_18 : decode cX3_widened 18 = .ok (.lreturn, 1) := by decide +kernel
theorem dX3_widened_19 : decode cX3_widened 19 = .ok (.iload_n 0, 1) := by decide +kernel
theorem dX3_widened_20 : decode cX3_widened 20 = .ok (.bipush 6, 2) := by decide +kernel
theorem dX3_widened_22 : decode cX3_widened 22 = .ok (.if_icmp .ne 8, 3) := by decide +kernel
theorem dX3_widened_25 : decode cX3_widened 25 = .ok (.lload_n 2, 1) := by decide +kernel
theorem dX3_widened_26 : decode cX3_widened 26 = .ok (.invokestatic 50, 3) := by decide +kernel
theorem dX3_widened_29 : decode cX3_widened 29 = .ok (.lreturn, 1) := by decide +kernel
theorem dX3_widened_30 : decode cX3_widened 30 = .ok (.iload_n 1, 1) := by decide +kernel
theorem dX3_widened_31 : decode cX3_widened 31 = .ok (.bipush 6, 2) := by decide +kernel
theorem dX3_widened_33 : decode cX3_widened 33 = .ok (.if_icmp .ne 11, 3) := by decide +kernel
theorem dX3_widened_36 : decode cX3_widened 36 = .ok (.lload_n 2, 1) := by decide +kernel
theorem dX3_widened_37 : decode cX3_widened 37 = .ok (.iconst 0, 1) := by decide +kernel
theorem dX3_widened_38 : decode cX3_widened 38 = .ok (.invokestatic 30, 3) := by decide +kernel
theorem dX3_widened_41 : decode cX3_widened 41 = .ok (.goto 8, 3) := by decide +kernel
theorem dX3_widened_44 : decode cX3_widened 44 = .ok (.lload_n 2, 1) := by decide +kernel
theorem dX3_widened_45 : decode cX3_widened 45 = .ok (.iconst 0, 1) := by decide +kernel
theorem dX3_widened_46 : decode cX3_widened 46 = .ok (.invokestatic 36, 3) := by decide +kernel
theorem dX3_widened_49 : decode cX3_widened 49 = .ok (.lreturn, 1) := by decide +kernel
set_option maxRecDepth 20000 in
theorem ggX3_weight_X3_mayBeNothing : GoodIn wsX3_weight wsX3_mayBeNothing := goodIn_r _ [9] (by decide +kernel) (by decide +kernel)
set_option maxRecDepth 20000 in
theorem gX3_weight_X3_mayBeNothing : GoodIn wsX3_weight (va_wsS RX3 54 yX3_mayBeNothing wsX3_mayBeNothing) := goodIn_app (goodIn_of _ (by decide +kernel)) ggX3_weight_X3_mayBeNothing
theorem dX3_weight_0 : decode cX3_weight 0 = .ok (.iload_n 0, 1) := by decide +kernel
theorem dX3_weight_1 : decode cX3_weight 1 = .ok (.invokestatic 54, 3) := by decide +kernel
theorem dX3_weight_4 : decode cX3_weight 4 = .ok (.ifCond .eq 15, 3) := by decide +kernel
theorem dX3_weight_7 : decode cX3_weight 7 = .ok (.lload_n 1, 1) := by decide +kernel
theorem dX3_weight_8 : decode cX3_weight 8 = .ok (.ldc2_w 44, 3) := by decide +kernel
theorem dX3_weight_11 : decode cX3_weight 11 = .ok (.lcmp, 1) := by decide +kernel
theorem dX3_weight_12 : decode cX3_weight 12 = .ok (.ifCond .ne 7, 3) := by decide +kernel
theorem dX3_weight_15 : decode cX3_weight 15 = .ok (.ldc2_w 44, 3) := by decide +kernel
theorem dX3_weight_18 : decode cX3_weight 18 = .ok (.lreturn, 1) := by decide +kernel
theorem dX3_weight_19 : decode cX3_weight 19 = .ok (.iload_n 0, 1) := by decide +kernel
theorem dX3_weight_20 : decode cX3_weight 20 = .ok (.tableswitch 80 6 9 #[32, 48, 80, 64], 32) := by decide +kernel
theorem dX3_weight_52 : decode cX3_weight 52 = .ok (.lload_n 1, 1) := by decide +kernel
theorem dX3_weight_53 : decode cX3_weight 53 = .ok (.lconst 0, 1) := by decide +kernel
theorem dX3_weight_54 : decode cX3_weight 54 = .ok (.lcmp, 1) := by decide +kernel
theorem dX3_weight_55 : decode cX3_weight 55 = .ok (.ifCond .ge 11, 3) := by decide +kernel
theorem dX3_weight_58 : decode cX3_weight 58 = .ok (.lload_n 1, 1) := by decide +kernel
theorem dX3_weight_59 : decode cX3_weight 59 = .ok (.ldc2_w 57, 3) := by decide +kernel
theorem dX3_weight_62 : decode cX3_weight 62 = .ok (.lxor, 1) := by decide +kernel
theorem dX3_weight_63 : decode cX3_weight 63 = .ok (.goto 4, 3) := by decide +kernel
theorem dX3_weight_66 : decode cX3_weight 66 = .ok (.lload_n 1, 1) := by decide +kernel
theorem dX3_weight_67 : decode cX3_weight 67 = .ok (.lreturn, 1) := by decide +kernel
theorem dX3_weight_68 : decode cX3_weight 68 = .ok (.lload_n 1, 1) := by decide +kernel
theorem dX3_weight_69 : decode cX3_weight 69 = .ok (.lconst 0, 1) := by decide +kernel
theorem dX3_weight_70 : decode cX3_weight 70 = .ok (.lcmp, 1) := by decide +kernel
theorem dX3_weight_71 : decode cX3_weight 71 = .ok (.ifCond .ge 11, 3) := by decide +kernel
theorem dX3_weight_74 : decode cX3_weight 74 = .ok (.lload_n 1, 1) := by decide +kernel
theorem dX3_weight_75 : decode cX3_weight 75 = .ok (.ldc2_w 59, 3) := by decide +kernel
theorem dX3_weight_78 : decode cX3_weight 78 = .ok (.lxor, 1) := by decide +kernel
theorem dX3_weight_79 : decode cX3_weight 79 = .ok (.goto 4, 3) := by decide +kernel
theorem dX3_weight_82 : decode cX3_weight 82 = .ok (.lload_n 1, 1) := by decide +kernel
theorem dX3_weight_83 : decode cX3_weight 83 = .ok (.lreturn, 1) := by decide +kernel
theorem dX3_weight_84 : decode cX3_weight 84 = .ok (.lload_n 1, 1) := by decide +kernel
theorem dX3_weight_85 : decode cX3_weight 85 = .ok (.ldc2_w 61, 3) := by decide +kernel
theorem dX3_weight_88 : decode cX3_weight 88 = .ok (.lrem, 1) := by decide +kernel
theorem dX3_weight_89 : decode cX3_weight 89 = .ok (.ldc2_w 63, 3) := by decide +kernel
theorem dX3_weight_92 : decode cX3_weight 92 = .ok (.lmul, 1) := by decide +kernel
theorem dX3_weight_93 : decode cX3_weight 93 = .ok (.lload_n 1, 1) := by decide +kernel
theorem dX3_weight_94 : decode cX3_weight 94 = .ok (.ldc2_w 61, 3) := by decide +kernel
theorem dX3_weight_97 : decode cX3_weight 97 = .ok (.ldiv, 1) := by decide +kernel
theorem dX3_weight_98 : decode cX3_weight 98 = .ok (.ladd, 1) := by decide +kernel
theorem dX3_weight_99 : decode cX3_weight 99 = .ok (.lreturn, 1) := by decide +kernel
theorem dX3_weight_100 : decode cX3_weight 100 = .ok (.lload_n 1, 1) := by decide +kernel
theorem dX3_weight_101 : decode cX3_weight 101 = .ok (.lreturn, 1) := by decide +kernel
set_option maxRecDepth 20000 in
theorem ggX3_sameWorth_X3_group : GoodIn wsX3_sameWorth wsX3_group := goodIn_r _ [4, 5, 6, 7, 3, 8] (by decide +kernel) (by decide +kernel)
set_option maxRecDepth 20000 in
theorem gX3_sameWorth_X3_group : GoodIn wsX3_sameWorth (va_wsS RX3 65 yX3_group wsX3_group) := goodIn_app (goodIn_of _ (by decide +kernel)) ggX3_sameWorth_X3_group
set_option maxRecDepth 20000 in
theorem ggX3_sameWorth_X3_widened : GoodIn wsX3_sameWorth wsX3_widened := goodIn_r _ [11, 12, 13, 14, 15, 16, 17, 18, 19, 20, 21, 22, 23, 24, 25, 26, 27, 28, 29, 30, 31, 32, 33, 34, 35, 36, 37, 38, 39] (by decide +kernel) (by decide +kernel)
set_option maxRecDepth 20000 in
theorem gX3_sameWorth_X3_widened : GoodIn wsX3_sameWorth (va_wsS RX3 69 yX3_widened wsX3_widened) := goodIn_app (goodIn_of _ (by decide +kernel)) ggX3_sameWorth_X3_widened
theorem dX3_sameWorth_0 : decode cX3_sameWorth 0 = .ok (.iload_n 0, 1) := by decide +kernel
theorem dX3_sameWorth_1 : decode cX3_sameWorth 1 = .ok (.lload_n 1, 1) := by decide +kernel
theorem dX3_sameWorth_2 : decode cX3_sameWorth 2 = .ok (.invokestatic 65, 3) := by decide +kernel
theorem dX3_sameWorth_5 : decode cX3_sameWorth 5 = .ok (.istore 6, 2) := by decide +kernel
theorem dX3_sameWorth_7 : decode cX3_sameWorth 7 = .ok (.iload 6, 2) := by decide +kernel
theorem dX3_sameWorth_9 : decode cX3_sameWorth 9 = .ok (.iload_n 3, 1) := by decide +kernel
theorem dX3_sameWorth_10 : decode cX3_sameWorth 10 = .ok (.lload 4, 2) := by decide +kernel
theorem dX3_sameWorth_12 : decode cX3_sameWorth 12 = .ok (.invokestatic 65, 3) := by decide +kernel
theorem dX3_sameWorth_15 : decode cX3_sameWorth 15 = .ok (.if_icmp .eq 5, 3) := by decide +kernel
theorem dX3_sameWorth_18 : decode cX3_sameWorth 18 = .ok (.iconst 0, 1) := by decide +kernel
theorem dX3_sameWorth_19 : decode cX3_sameWorth 19 = .ok (.ireturn, 1) := by decide +kernel
theorem dX3_sameWorth_20 : decode cX3_sameWorth 20 = .ok (.iload 6, 2) := by decide +kernel
theorem dX3_sameWorth_22 : decode cX3_sameWorth 22 = .ok (.iconst 4, 1) := by decide +kernel
theorem dX3_sameWorth_23 : decode cX3_sameWorth 23 = .ok (.if_icmp .ne 28, 3) := by decide +kernel
theorem dX3_sameWorth_26 : decode cX3_sameWorth 26 = .ok (.iload_n 0, 1) := by decide +kernel
theorem dX3_sameWorth_27 : decode cX3_sameWorth 27 = .ok (.bipush 7, 2) := by decide +kernel
theorem dX3_sameWorth_29 : decode cX3_sameWorth 29 = .ok (.lload_n 1, 1) := by decide +kernel
theorem dX3_sameWorth_30 : decode cX3_sameWorth 30 = .ok (.invokestatic 69, 3) := by decide +kernel
theorem dX3_sameWorth_33 : decode cX3_sameWorth 33 = .ok (.iload_n 3, 1) := by decide +kernel
theorem dX3_sameWorth_34 : decode cX3_sameWorth 34 = .ok (.bipush 7, 2) := by decide +kernel
theorem dX3_sameWorth_36 : decode cX3_sameWorth 36 = .ok (.lload 4, 2) := by decide +kernel
theorem dX3_sameWorth_38 : decode cX3_sameWorth 38 = .ok (.invokestatic 69, 3) := by decide +kernel
theorem dX3_sameWorth_41 : decode cX3_sameWorth 41 = .ok (.lcmp, 1) := by decide +kernel
theorem dX3_sameWorth_42 : decode cX3_sameWorth 42 = .ok (.ifCond .ne 7, 3) := by decide +kernel
theorem dX3_sameWorth_45 : decode cX3_sameWorth 45 = .ok (.iconst 1, 1) := by decide +kernel
theorem dX3_sameWorth_46 : decode cX3_sameWorth 46 = .ok (.goto 4, 3) := by decide +kernel
theorem dX3_sameWorth_49 : decode cX3_sameWorth 49 = .ok (.iconst 0, 1) := by decide +kernel
theorem dX3_sameWorth_50 : decode cX3_sameWorth 50 = .ok (.ireturn, 1) := by decide +kernel
theorem dX3_sameWorth_51 : decode cX3_sameWorth 51 = .ok (.lload_n 1, 1) := by decide +kernel
theorem dX3_sameWorth_52 : decode cX3_sameWorth 52 = .ok (.lload 4, 2) := by decide +kernel
theorem dX3_sameWorth_54 : decode cX3_sameWorth 54 = .ok (.lcmp, 1) := by decide +kernel
theorem dX3_sameWorth_55 : decode cX3_sameWorth 55 = .ok (.ifCond .ne 7, 3) := by decide +kernel
theorem dX3_sameWorth_58 : decode cX3_sameWorth 58 = .ok (.iconst 1, 1) := by decide +kernel
theorem dX3_sameWorth_59 : decode cX3_sameWorth 59 = .ok (.goto 4, 3) := by decide +kernel
theorem dX3_sameWorth_62 : decode cX3_sameWorth 62 = .ok (.iconst 0, 1) := by decide +kernel
theorem dX3_sameWorth_63 : decode cX3_sameWorth 63 = .ok (.ireturn, 1) := by decide +kernel
set_option maxRecDepth 20000 in
theorem ggX3_group_X3_mayBeNothing : GoodIn wsX3_group wsX3_mayBeNothing := goodIn_r _ [5] (by decide +kernel) (by decide +kernel)
set_option maxRecDepth 20000 in
theorem gX3_group_X3_mayBeNothing : GoodIn wsX3_group (va_wsS RX3 54 yX3_mayBeNothing wsX3_mayBeNothing) := goodIn_app (goodIn_of _ (by decide +kernel)) ggX3_group_X3_mayBeNothing
theorem dX3_group_0 : decode cX3_group 0 = .ok (.iload_n 0, 1) := by decide +kernel
theorem dX3_group_1 : decode cX3_group 1 = .ok (.invokestatic 54, 3) := by decide +kernel
theorem dX3_group_4 : decode cX3_group 4 = .ok (.ifCond .eq 14, 3) := by decide +kernel
theorem dX3_group_7 : decode cX3_group 7 = .ok (.lload_n 1, 1) := by decide +kernel
theorem dX3_group_8 : decode cX3_group 8 = .ok (.ldc2_w 44, 3) := by decide +kernel
theorem dX3_group_11 : decode cX3_group 11 = .ok (.lcmp, 1) := by decide +kernel
theorem dX3_group_12 : decode cX3_group 12 = .ok (.ifCond .ne 6, 3) := by decide +kernel
theorem dX3_group_15 : decode cX3_group 15 = .ok (.bipush 14, 2) := by decide +kernel
theorem dX3_group_17 : decode cX3_group 17 = .ok (.ireturn, 1) := by decide +kernel
theorem dX3_group_18 : decode cX3_group 18 = .ok (.iload_n 0, 1) := by decide +kernel
theorem dX3_group_19 : decode cX3_group 19 = .ok (.iconst 1, 1) := by decide +kernel
theorem dX3_group_20 : decode cX3_group 20 = .ok (.if_icmp .lt 13, 3) := by decide +kernel
theorem dX3_group_23 : decode cX3_group 23 = .ok (.iload_n 0, 1) := by decide +kernel
theorem dX3_group_24 : decode cX3_group 24 = .ok (.bipush 8, 2) := by decide +kernel
theorem dX3_group_26 : decode cX3_group 26 = .ok (.if_icmp .gt 7, 3) := by decide +kernel
theorem dX3_group_29 : decode cX3_group 29 = .ok (.iconst 4, 1) := by decide +kernel
theorem dX3_group_30 : decode cX3_group 30 = .ok (.goto 4, 3) := by decide +kernel
theorem dX3_group_33 : decode cX3_group 33 = .ok (.iload_n 0, 1) := by decide +kernel
theorem dX3_group_34 : decode cX3_group 34 = .ok (.ireturn, 1) := by decide +kernel
