set_option maxRecDepth 20000 in
theorem ggX1_nearestFloat_X1_nearest : GoodIn wsX1_nearestFloat wsX1_nearest := goodIn_r _ [5, 6, 7, 8, 9, 10, 11, 12, 13, 14] (by decide +kernel) (by decide +kernel)
set_option maxRecDepth 20000 in
theorem gX1_nearestFloat_X1_nearest : GoodIn wsX1_nearestFloat (va_wsS RX1 9 yX1_nearest wsX1_nearest) := goodIn_app (goodIn_of _ (by decide +kernel)) ggX1_nearestFloat_X1_nearest
theorem dX1_nearestFloat_0 : decode cX1_nearestFloat 0 = .ok (.lload_n 0, 1) := by decide +kernel
theorem dX1_nearestFloat_1 : decode cX1_nearestFloat 1 = .ok (.iload_n 2, 1) := by decide +kernel
theorem dX1_nearestFloat_2 : decode cX1_nearestFloat 2 = .ok (.bipush 23, 2) := by decide +kernel
theorem dX1_nearestFloat_4 : decode cX1_nearestFloat 4 = .ok (.bipush 127, 2) := by decide +kernel
theorem dX1_nearestFloat_6 : decode cX1_nearestFloat 6 = .ok (.invokestatic 9, 3) := by decide +kernel
theorem dX1_nearestFloat_9 : decode cX1_nearestFloat 9 = .ok (.lstore_n 3, 1) := by decide +kernel
theorem dX1_nearestFloat_10 : decode cX1_nearestFloat 10 = .ok (.lload_n 0, 1) := by decide +kernel
theorem dX1_nearestFloat_11 : decode cX1_nearestFloat 11 = .ok (.lconst 0, 1) := by decide +kernel
theorem dX1_nearestFloat_12 : decode cX1_nearestFloat 12 = .ok (.lcmp, 1) := by decide +kernel
theorem dX1_nearestFloat_13 : decode cX1_nearestFloat 13 = .ok (.ifCond .ge 11, 3) := by decide +kernel
theorem dX1_nearestFloat_16 : decode cX1_nearestFloat 16 = .ok (.lload_n 3, 1) := by decide +kernel
theorem dX1_nearestFloat_17 : decode cX1_nearestFloat 17 = .ok (.ldc2_w 13, 3) := by decide +kernel
theorem dX1_nearestFloat_20 : decode cX1_nearestFloat 20 = .ok (.lor, 1) := by decide +kernel
theorem dX1_nearestFloat_21 : decode cX1_nearestFloat 21 = .ok (.goto 4, 3) := by decide +kernel
theorem dX1_nearestFloat_24 : decode cX1_nearestFloat 24 = .ok (.lload_n 3, 1) := by decide +kernel
theorem dX1_nearestFloat_25 : decode cX1_nearestFloat 25 = .ok (.lreturn, 1) := by decide +kernel
set_option maxRecDepth 20000 in
theorem ggX1_nearestDouble_X1_nearest : GoodIn wsX1_nearestDouble wsX1_nearest := goodIn_r _ [5, 6, 7, 8, 9, 10, 11, 12, 13, 14] (by decide +kernel) (by decide +kernel)
set_option maxRecDepth 20000 in
theorem gX1_nearestDouble_X1_nearest : GoodIn wsX1_nearestDouble (va_wsS RX1 9 yX1_nearest wsX1_nearest) := goodIn_app (goodIn_of _ (by decide +kernel)) ggX1_nearestDouble_X1_nearest
theorem dX1_nearestDouble_0 : decode cX1_nearestDouble 0 = .ok (.lload_n 0, 1) := by decide +kernel
theorem dX1_nearestDouble_1 : decode cX1_nearestDouble 1 = .ok (.iload_n 2, 1) := by decide +kernel
theorem dX1_nearestDouble_2 : decode cX1_nearestDouble 2 = .ok (.bipush 52, 2) := by decide +kernel
theorem dX1_nearestDouble_4 : decode cX1_nearestDouble 4 = .ok (.sipush 1023, 3) := by decide +kernel
theorem dX1_nearestDouble_7 : decode cX1_nearestDouble 7 = .ok (.invokestatic 9, 3) := by decide +kernel
theorem dX1_nearestDouble_10 : decode cX1_nearestDouble 10 = .ok (.lstore_n 3, 1) := by decide +kernel
theorem dX1_nearestDouble_11 : decode cX1_nearestDouble 11 = .ok (.lload_n 0, 1) := by decide +kernel
theorem dX1_nearestDouble_12 : decode cX1_nearestDouble 12 = .ok (.lconst 0, 1) := by decide +kernel
theorem dX1_nearestDouble_13 : decode cX1_nearestDouble 13 = .ok (.lcmp, 1) := by decide +kernel
theorem dX1_nearestDouble_14 : decode cX1_nearestDouble 14 = .ok (.ifCond .ge 11, 3) := by decide +kernel
theorem dX1_nearestDouble_17 : decode cX1_nearestDouble 17 = .ok (.lload_n 3, 1) := by decide +kernel
theorem dX1_nearestDouble_18 : decode cX1_nearestDouble 18 = .ok (.ldc2_w 15, 3) := by decide +kernel
theorem dX1_nearestDouble_21 : decode cX1_nearestDouble 21 = .ok (.lor, 1) := by decide +kernel
theorem dX1_nearestDouble_22 : decode cX1_nearestDouble 22 = .ok (.goto 4, 3) := by decide +kernel
theorem dX1_nearestDouble_25 : decode cX1_nearestDouble 25 = .ok (.lload_n 3, 1) := by decide +kernel
theorem dX1_nearestDouble_26 : decode cX1_nearestDouble 26 = .ok (.lreturn, 1) := by decide +kernel
theorem dX1_doubleOfFloat_0 : decode cX1_doubleOfFloat 0 = .ok (.lload_n 0, 1) := by decide +kernel
theorem dX1_doubleOfFloat_1 : decode cX1_doubleOfFloat 1 = .ok (.lconst 0, 1) := by decide +kernel
theorem dX1_doubleOfFloat_2 : decode cX1_doubleOfFloat 2 = .ok (.lcmp, 1) := by decide +kernel
theorem dX1_doubleOfFloat_3 : decode cX1_doubleOfFloat 3 = .ok (.ifCond .ne 5, 3) := by decide +kernel
theorem dX1_doubleOfFloat_6 : decode cX1_doubleOfFloat 6 = .ok (.lconst 0, 1) := by decide +kernel
theorem dX1_doubleOfFloat_7 : decode cX1_doubleOfFloat 7 = .ok (.lreturn, 1) := by decide +kernel
theorem dX1_doubleOfFloat_8 : decode cX1_doubleOfFloat 8 = .ok (.lload_n 0, 1) := by decide +kernel
theorem dX1_doubleOfFloat_9 : decode cX1_doubleOfFloat 9 = .ok (.bipush 23, 2) := by decide +kernel
theorem dX1_doubleOfFloat_11 : decode cX1_doubleOfFloat 11 = .ok (.lshr, 1) := by decide +kernel
theorem dX1_doubleOfFloat_12 : decode cX1_doubleOfFloat 12 = .ok (.ldc2_w 17, 3) := by decide +kernel
theorem dX1_doubleOfFloat_15 : decode cX1_doubleOfFloat 15 = .ok (.land, 1) := by decide +kernel
theorem dX1_doubleOfFloat_16 : decode cX1_doubleOfFloat 16 = .ok (.ldc2_w 19, 3) := by decide +kernel
theorem dX1_doubleOfFloat_19 : decode cX1_doubleOfFloat 19 = .ok (.ladd, 1) := by decide +kernel
theorem dX1_doubleOfFloat_20 : decode cX1_doubleOfFloat 20 = .ok (.ldc2_w 21, 3) := by decide +kernel
theorem dX1_doubleOfFloat_23 : decode cX1_doubleOfFloat 23 = .ok (.lsub, 1) := by decide +kernel
theorem dX1_doubleOfFloat_24 : decode cX1_doubleOfFloat 24 = .ok (.lstore_n 2, 1) := by decide +kernel
theorem dX1_doubleOfFloat_25 : decode cX1_doubleOfFloat 25 = .ok (.lload_n 0, 1) := by decide +kernel
theorem dX1_doubleOfFloat_26 : decode cX1_doubleOfFloat 26 = .ok (.ldc2_w 23, 3) := by decide +kernel
theorem dX1_doubleOfFloat_29 : decode cX1_doubleOfFloat 29 = .ok (.land, 1) := by decide +kernel
theorem dX1_doubleOfFloat_30 : decode cX1_doubleOfFloat 30 = .ok (.lstore 4, 2) := by decide +kernel
theorem dX1_doubleOfFloat_32 : decode cX1_doubleOfFloat 32 = .ok (.lload_n 2, 1) := by decide +kernel
theorem dX1_doubleOfFloat_33 : decode cX1_doubleOfFloat 33 = .ok (.bipush 52, 2) := by decide +kernel
theorem dX1_doubleOfFloat_35 : decode cX1_doubleOfFloat 35 = .ok (.lshl, 1) := by decide +kernel
theorem dX1_doubleOfFloat_36 : decode cX1_doubleOfFloat 36 = .ok (.lload 4, 2) := by decide +kernel
theorem dX1_doubleOfFloat_38 : decode cX1_doubleOfFloat 38 = .ok (.bipush 29, 2) := by decide +kernel
theorem dX1_doubleOfFloat_40 : decode cX1_doubleOfFloat 40 = .ok (.lshl, 1) := by decide +kernel
theorem dX1_doubleOfFloat_41 : decode cX1_doubleOfFloat 41 = .ok (.lor, 1) := by decide +kernel
theorem dX1_doubleOfFloat_42 : decode cX1_doubleOfFloat 42 = .ok (.lstore 6, 2) := by decide +kernel
theorem dX1_doubleOfFloat_44 : decode cX1_doubleOfFloat 44 = .ok (.lload_n 0, 1) := by decide +kernel
theorem dX1_doubleOfFloat_45 : decode cX1_doubleOfFloat 45 = .ok (.lconst 0, 1) := by decide +kernel
theorem dX1_doubleOfFloat_46 : decode cX1_doubleOfFloat 46 = .ok (.lcmp, 1) := by decide +kernel
theorem dX1_doubleOfFloat_47 : decode cX1_doubleOfFloat 47 = .ok (.ifCond .ge 12, 3) := by decide +kernel
theorem dX1_doubleOfFloat_50 : decode cX1_doubleOfFloat 50 = .ok (.lload 6, 2) := by decide +kernel
theorem dX1_doubleOfFloat_52 : decode cX1_doubleOfFloat 52 = .ok (.ldc2_w 15, 3) := by decide +kernel
theorem dX1_doubleOfFloat_55 : decode cX1_doubleOfFloat 55 = .ok (.lor, 1) := by decide +kernel
theorem dX1_doubleOfFloat_56 : decode cX1_doubleOfFloat 56 = .ok (.goto 5, 3) := by decide +kernel
theorem dX1_doubleOfFloat_59 : decode cX1_doubleOfFloat 59 = .ok (.lload 6, 2) := by decide +kernel
theorem dX1_doubleOfFloat_61 : decode cX1_doubleOfFloat 61 = .ok (.lreturn, 1) := by decide +kernel
set_option maxRecDepth 20000 in
theorem ggX1_nearest_J13_numberOfLeadingZeros_95d88 : GoodIn wsX1_nearest wsJ13_numberOfLeadingZeros_95d88 := goodIn_r _ [4, 5, 6, 7, 8, 9] (by decide +kernel) (by decide +kernel)
set_option maxRecDepth 20000 in
theorem gX1_nearest_J13_numberOfLeadingZeros_95d88 : GoodIn wsX1_nearest (va_wsS RX1 25 yJ13_numberOfLeadingZeros_95d88 wsJ13_numberOfLeadingZeros_95d88) := goodIn_app (goodIn_of _ (by decide +kernel)) ggX1_nearest_J13_numberOfLeadingZeros_95d88
theorem dX1_nearest_0 : decode cX1_nearest 0 = .ok (.lload_n 0, 1) := by decide +kernel
theorem dX1_nearest_1 : decode cX1_nearest 1 = .ok (.lconst 0, 1) := by decide +kernel
theorem dX1_nearest_2 : decode cX1_nearest 2 = .ok (.lcmp, 1) := by decide +kernel
theorem dX1_nearest_3 : decode cX1_nearest 3 = .ok (.ifCond .ne 5, 3) := by decide +kernel
theorem dX1_nearest_6 : decode cX1_nearest 6 = .ok (.lconst 0, 1) := by decide +kernel
theorem dX1_nearest_7 : decode cX1_nearest 7 = .ok (.lreturn, 1) := by decide +kernel
theorem dX1_nearest_8 : decode cX1_nearest 8 = .ok (.lload_n 0, 1) := by decide +kernel
theorem dX1_nearest_9 : decode cX1_nearest 9 = .ok (.lconst 0, 1) := by decide +kernel
theorem dX1_nearest_10 : decode cX1_nearest 10 = .ok (.lcmp, 1) := by decide +kernel
theorem dX1_nearest_11 : decode cX1_nearest 11 = .ok (.ifCond .ge 8, 3) := by decide +kernel
theorem dX1_nearest_14 : decode cX1_nearest 14 = .ok (.lload_n 0, 1) := by decide +kernel
theorem dX1_nearest_15 : decode cX1_nearest 15 = .ok (.lneg, 1) := by decide +kernel
theorem dX1_nearest_16 : decode cX1_nearest 16 = .ok (.goto 4, 3) := by decide +kernel
theorem dX1_nearest_19 : decode cX1_nearest 19 = .ok (.lload_n 0, 1) := by decide +kernel
theorem dX1_nearest_20 : decode cX1_nearest 20 = .ok (.lstore 5, 2) := by decide +kernel
theorem dX1_nearest_22 : decode cX1_nearest 22 = .ok (.bipush 63, 2) := by decide +kernel
theorem dX1_nearest_24 : decode cX1_nearest 24 = .ok (.lload 5, 2) := by decide +kernel
theorem dX1_nearest_26 : decode cX1_nearest 26 = .ok (.invokestatic 25, 3) := by decide +kernel
theorem dX1_nearest_29 : decode cX1_nearest 29 = .ok (.isub, 1) := by decide +kernel
theorem dX1_nearest_30 : decode cX1_nearest 30 = .ok (.istore 7, 2) := by decide +kernel
theorem dX1_nearest_32 : decode cX1_nearest 32 = .ok (.iload 7, 2) := by decide +kernel
theorem dX1_nearest_34 : decode cX1_nearest 34 = .ok (.iload_n 3, 1) := by decide +kernel
theorem dX1_nearest_35 : decode cX1_nearest 35 = .ok (.isub, 1) := by decide +kernel
theorem dX1_nearest_36 : decode cX1_nearest 36 = .ok (.istore 8, 2) := by decide +kernel
theorem dX1_nearest_38 : decode cX1_nearest 38 = .ok (.iload 8, 2) := by decide +kernel
theorem dX1_nearest_40 : decode cX1_nearest 40 = .ok (.ifCond .le 11, 3) := by decide +kernel
theorem dX1_nearest_43 : decode cX1_nearest 43 = .ok (.lload 5, 2) := by decide +kernel
theorem dX1_nearest_45 : decode cX1_nearest 45 = .ok (.iload 8, 2) := by decide +kernel
theorem dX1_nearest_47 : decode cX1_nearest 47 = .ok (.lushr, 1) := by decide +kernel
theorem dX1_nearest_48 : decode cX1_nearest 48 = .ok (.goto 9, 3) := by decide +kernel
theorem dX1_nearest_51 : decode cX1_nearest 51 = .ok (.lload 5, 2) := by decide +kernel
theorem dX1_nearest_53 : decode cX1_nearest 53 = .ok (.iload 8, 2) := by decide +kernel
theorem dX1_nearest_55 : decode cX1_nearest 55 = .ok (.ineg, 1) := by decide +kernel
theorem dX1_nearest_56 : decode cX1_nearest 56 = .ok (.lshl, 1) := by decide +kernel
theorem dX1_nearest_57 : decode cX1_nearest 57 = .ok (.lstore 9, 2) := by decide +kernel
theorem dX1_nearest_59 : decode cX1_nearest 59 = .ok (.iload 8, 2) := by decide +kernel
theorem dX1_nearest_61 : decode cX1_nearest 61 = .ok (.ifCond .le 53, 3) := by decide +kernel
theorem dX1_nearest_64 : decode cX1_nearest 64 = .ok (.lload 5, 2) := by decide +kernel
theorem dX1_nearest_66 : decode cX1_nearest 66 = .ok (.lconst 1, 1) := by decide +kernel
theorem dX1_nearest_67 : decode cX1_nearest 67 = .ok (.iload 8, 2) := by decide +kernel
theorem dX1_nearest_69 : decode cX1_nearest 69 = .ok (.lshl, 1) := by decide +kernel
theorem dX1_nearest_70 : decode cX1_nearest 70 = .ok (.lconst 1, 1) := by decide +kernel
theorem dX1_nearest_71 : decode cX1_nearest 71 = .ok (.lsub, 1) := by decide +kernel
theorem dX1_nearest_72 : decode cX1_nearest 72 = .ok (.land, 1) := by decide +kernel
theorem dX1_nearest_73 : decode cX1_nearest 73 = .ok (.lstore 11, 2) := by decide +kernel
theorem dX1_nearest_75 : decode cX1_nearest 75 = .ok (.lconst 1, 1) := by decide +kernel
theorem dX1_nearest_76 : decode cX1_nearest 76 = .ok (.iload 8, 2) := by decide +kernel
theorem dX1_nearest_78 : decode cX1_nearest 78 = .ok (.iconst 1, 1) := by decide +kernel
theorem dX1_nearest_79 : decode cX1_nearest 79 = .ok (.isub, 1) := by decide +kernel
theorem dX1_nearest_80 : decode cX1_nearest 80 = .ok (.lshl, 1) := by decide +kernel
theorem dX1_nearest_81 : decode cX1_nearest 81 = .ok (.lstore 13, 2) := by decide +kernel
theorem dX1_nearest_83 : decode cX1_nearest 83 = .ok (.lload 11, 2) := by decide +kernel
theorem dX1_nearest_85 : decode cX1_nearest 85 = .ok (.lload 13, 2) := by decide +kernel
theorem dX1_nearest_87 : decode cX1_nearest 87 = .ok (.lcmp, 1) := by decide +kernel
theorem dX1_nearest_88 : decode cX1_nearest 88 = .ok (.ifCond .gt 20, 3) := by decide +kernel
theorem dX1_nearest_91 : decode cX1_nearest 91 = .ok (.lload 11, 2) := by decide +kernel
theorem dX1_nearest_93 : decode cX1_nearest 93 = .ok (.lload 13, 2) := by decide +kernel
theorem dX1_nearest_95 : decode cX1_nearest 95 = .ok (.lcmp, 1) := by decide +kernel
theorem dX1_nearest_96 : decode cX1_nearest 96 = .ok (.ifCond .ne 18, 3) := by decide +kernel
theorem dX1_nearest_99 : decode cX1_nearest 99 = .ok (.lload 9, 2) := by decide +kernel
theorem dX1_nearest_101 : decode cX1_nearest 101 = .ok (.lconst 1, 1) := by decide +kernel
theorem dX1_nearest_102 : decode cX1_nearest 102 = .ok (.land, 1) := by decide +kernel
theorem dX1_nearest_103 : decode cX1_nearest 103 = .ok (.lconst 1, 1) := by decide +kernel
theorem dX1_nearest_104 : decode cX1_nearest 104 = .ok (.lcmp, 1) := by decide +kernel
theorem dX1_nearest_105 : decode cX1_nearest 105 = .ok (.ifCond .ne 9, 3) := by decide +kernel
theorem dX1_nearest_108 : decode cX1_nearest 108 = .ok (.lload 9, 2) := by decide +kernel
theorem dX1_nearest_110 : decode cX1_nearest 110 = .ok (.lconst 1, 1) := by decide +kernel
theorem dX1_nearest_111 : decode cX1_nearest 111 = .ok (.ladd, 1) := by decide +kernel
theorem dX1_nearest_112 : decode cX1_nearest 112 = .ok (.lstore 9, 2) := by decide +kernel
theorem dX1_nearest_114 : decode cX1_nearest 114 = .ok (.iload 7, 2) := by decide +kernel
theorem dX1_nearest_116 : decode cX1_nearest 116 = .ok (.iload_n 2, 1) := by decide +kernel
theorem dX1_nearest_117 : decode cX1_nearest 117 = .ok (.isub, 1) := by decide +kernel
theorem dX1_nearest_118 : decode cX1_nearest 118 = .ok (.iload 4, 2) := by decide +kernel
theorem dX1_nearest_120 : decode cX1_nearest 120 = .ok (.iadd, 1) := by decide +kernel
theorem dX1_nearest_121 : decode cX1_nearest 121 = .ok (.iconst 1, 1) := by decide +kernel
theorem dX1_nearest_122 : decode cX1_nearest 122 = .ok (.isub, 1) := by decide +kernel
theorem dX1_nearest_123 : decode cX1_nearest 123 = .ok (.i2l, 1) := by decide +kernel
theorem dX1_nearest_124 : decode cX1_nearest 124 = .ok (.iload_n 3, 1) := by decide +kernel
theorem dX1_nearest_125 : decode cX1_nearest 125 = .ok (.lshl, 1) := by decide +kernel
theorem dX1_nearest_126 : decode cX1_nearest 126 = .ok (.lload 9, 2) := by decide +kernel
theorem dX1_nearest_128 : decode cX1_nearest 128 = .ok (.ladd, 1) := by decide +kernel
theorem dX1_nearest_129 : decode cX1_nearest 129 = .ok (.lreturn, 1) := by decide +kernel
