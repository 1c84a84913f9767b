set_option maxRecDepth 20000 in
theorem ggX8_chalk_X8_noPlace : GoodIn wsX8_chalk wsX8_noPlace := goodIn_r _ [17, 18, 19, 11, 12, 8, 13, 28, 29, 30, 31, 32, 33, 34, 35, 36, 37, 38, 39, 40, 41, 42, 43, 44, 45, 46, 47, 48, 49, 50, 51, 52, 53, 54, 55, 56, 57, 58, 59, 60, 61, 62, 63, 64] (by decide +kernel) (by decide +kernel)
set_option maxRecDepth 20000 in
theorem gX8_chalk_X8_noPlace : GoodIn wsX8_chalk (wsV RX8 300 RX8 yX8_noPlace wsX8_noPlace) := goodIn_app (goodIn_of _ (by decide +kernel)) ggX8_chalk_X8_noPlace
set_option maxRecDepth 20000 in
theorem ggX8_chalk_X8_layPart : GoodIn wsX8_chalk wsX8_layPart := goodIn_r _ [23, 4, 24, 25, 26, 8, 27, 28, 29, 30, 31, 32, 33, 34, 35, 36, 37, 38, 39, 40, 41, 42, 43, 44, 45, 46, 47, 48, 49, 50, 51, 52, 53, 54, 55, 56, 57, 58, 59, 60, 61, 62, 63, 64] (by decide +kernel) (by decide +kernel)
set_option maxRecDepth 20000 in
theorem gX8_chalk_X8_layPart : GoodIn wsX8_chalk (wsV RX8 303 RX8 yX8_layPart wsX8_layPart) := goodIn_app (goodIn_of _ (by decide +kernel)) ggX8_chalk_X8_layPart
theorem dX8_chalk_0 : decode cX8_chalk 0 = .ok (.iload_n 1, 1) := by decide +kernel
theorem dX8_chalk_1 : decode cX8_chalk 1 = .ok (.invokestatic 291, 3) := by decide +kernel
theorem dX8_chalk_4 : decode cX8_chalk 4 = .ok (.ifCond .ne 6, 3) := by decide +kernel
theorem dX8_chalk_7 : decode cX8_chalk 7 = .ok (.bipush (-2), 2) := by decide +kernel
theorem dX8_chalk_9 : decode cX8_chalk 9 = .ok (.ireturn, 1) := by decide +kernel
theorem dX8_chalk_10 : decode cX8_chalk 10 = .ok (.iload_n 2, 1) := by decide +kernel
theorem dX8_chalk_11 : decode cX8_chalk 11 = .ok (.i2l, 1) := by decide +kernel
theorem dX8_chalk_12 : decode cX8_chalk 12 = .ok (.lconst 0, 1) := by decide +kernel
theorem dX8_chalk_13 : decode cX8_chalk 13 = .ok (.ldc2_w 294, 3) := by decide +kernel
theorem dX8_chalk_16 : decode cX8_chalk 16 = .ok (.invokestatic 86, 3) := by decide +kernel
theorem dX8_chalk_19 : decode cX8_chalk 19 = .ok (.ifCond .eq 36, 3) := by decide +kernel
theorem dX8_chalk_22 : decode cX8_chalk 22 = .ok (.iload_n 2, 1) := by decide +kernel
theorem dX8_chalk_23 : decode cX8_chalk 23 = .ok (.iconst 2, 1) := by decide +kernel
theorem dX8_chalk_24 : decode cX8_chalk 24 = .ok (.if_icmp .ne 34, 3) := by decide +kernel
theorem dX8_chalk_27 : decode cX8_chalk 27 = .ok (.iload 4, 2) := by decide +kernel
theorem dX8_chalk_29 : decode cX8_chalk 29 = .ok (.i2l, 1) := by decide +kernel
theorem dX8_chalk_30 : decode cX8_chalk 30 = .ok (.ldc2_w 296, 3) := by decide +kernel
theorem dX8_chalk_33 : decode cX8_chalk 33 = .ok (.ldc2_w 298, 3) := by decide +kernel
theorem dX8_chalk_36 : decode cX8_chalk 36 = .ok (.invokestatic 86, 3) := by decide +kernel
theorem dX8_chalk_39 : decode cX8_chalk 39 = .ok (.ifCond .eq 16, 3) := by decide +kernel
theorem dX8_chalk_42 : decode cX8_chalk 42 = .ok (.iload 5, 2) := by decide +kernel
theorem dX8_chalk_44 : decode cX8_chalk 44 = .ok (.i2l, 1) := by decide +kernel
theorem dX8_chalk_45 : decode cX8_chalk 45 = .ok (.lconst 1, 1) := by decide +kernel
theorem dX8_chalk_46 : decode cX8_chalk 46 = .ok (.ldc2_w 298, 3) := by decide +kernel
theorem dX8_chalk_49 : decode cX8_chalk 49 = .ok (.invokestatic 86, 3) := by decide +kernel
theorem dX8_chalk_52 : decode cX8_chalk 52 = .ok (.ifCond .ne 6, 3) := by decide +kernel
theorem dX8_chalk_55 : decode cX8_chalk 55 = .ok (.bipush (-3), 2) := by decide +kernel
theorem dX8_chalk_57 : decode cX8_chalk 57 = .ok (.ireturn, 1) := by decide +kernel
theorem dX8_chalk_58 : decode cX8_chalk 58 = .ok (.aload_n 0, 1) := by decide +kernel
theorem dX8_chalk_59 : decode cX8_chalk 59 = .ok (.iload_n 1, 1) := by decide +kernel
theorem dX8_chalk_60 : decode cX8_chalk 60 = .ok (.iload_n 2, 1) := by decide +kernel
theorem dX8_chalk_61 : decode cX8_chalk 61 = .ok (.iload_n 3, 1) := by decide +kernel
theorem dX8_chalk_62 : decode cX8_chalk 62 = .ok (.invokevirtual 300, 3) := by decide +kernel
theorem dX8_chalk_65 : decode cX8_chalk 65 = .ok (.istore 6, 2) := by decide +kernel
theorem dX8_chalk_67 : decode cX8_chalk 67 = .ok (.iload 6, 2) := by decide +kernel
theorem dX8_chalk_69 : decode cX8_chalk 69 = .ok (.ifCond .eq 6, 3) := by decide +kernel
theorem dX8_chalk_72 : decode cX8_chalk 72 = .ok (.iload 6, 2) := by decide +kernel
theorem dX8_chalk_74 : decode cX8_chalk 74 = .ok (.ireturn, 1) := by decide +kernel
theorem dX8_chalk_75 : decode cX8_chalk 75 = .ok (.iload_n 2, 1) := by decide +kernel
theorem dX8_chalk_76 : decode cX8_chalk 76 = .ok (.iconst 2, 1) := by decide +kernel
theorem dX8_chalk_77 : decode cX8_chalk 77 = .ok (.if_icmp .ne 22, 3) := by decide +kernel
theorem dX8_chalk_80 : decode cX8_chalk 80 = .ok (.aload_n 0, 1) := by decide +kernel
theorem dX8_chalk_81 : decode cX8_chalk 81 = .ok (.bipush 10, 2) := by decide +kernel
theorem dX8_chalk_83 : decode cX8_chalk 83 = .ok (.iload_n 1, 1) := by decide +kernel
theorem dX8_chalk_84 : decode cX8_chalk 84 = .ok (.imul, 1) := by decide +kernel
theorem dX8_chalk_85 : decode cX8_chalk 85 = .ok (.iload_n 3, 1) := by decide +kernel
theorem dX8_chalk_86 : decode cX8_chalk 86 = .ok (.iadd, 1) := by decide +kernel
theorem dX8_chalk_87 : decode cX8_chalk 87 = .ok (.iload 4, 2) := by decide +kernel
theorem dX8_chalk_89 : decode cX8_chalk 89 = .ok (.i2l, 1) := by decide +kernel
theorem dX8_chalk_90 : decode cX8_chalk 90 = .ok (.iload 5, 2) := by decide +kernel
theorem dX8_chalk_92 : decode cX8_chalk 92 = .ok (.i2l, 1) := by decide +kernel
theorem dX8_chalk_93 : decode cX8_chalk 93 = .ok (.invokevirtual 303, 3) := by decide +kernel
theorem dX8_chalk_96 : decode cX8_chalk 96 = .ok (.goto 35, 3) := by decide +kernel
theorem dX8_chalk_99 : decode cX8_chalk 99 = .ok (.aload_n 0, 1) := by decide +kernel
theorem dX8_chalk_100 : decode cX8_chalk 100 = .ok (.getfield 38, 3) := by decide +kernel
theorem dX8_chalk_103 : decode cX8_chalk 103 = .ok (.bipush 10, 2) := by decide +kernel
theorem dX8_chalk_105 : decode cX8_chalk 105 = .ok (.iload_n 1, 1) := by decide +kernel
theorem dX8_chalk_106 : decode cX8_chalk 106 = .ok (.imul, 1) := by decide +kernel
theorem dX8_chalk_107 : decode cX8_chalk 107 = .ok (.iload_n 3, 1) := by decide +kernel
theorem dX8_chalk_108 : decode cX8_chalk 108 = .ok (.iadd, 1) := by decide +kernel
theorem dX8_chalk_109 : decode cX8_chalk 109 = .ok (.iload_n 2, 1) := by decide +kernel
theorem dX8_chalk_110 : decode cX8_chalk 110 = .ok (.ifCond .ne 9, 3) := by decide +kernel
theorem dX8_chalk_113 : decode cX8_chalk 113 = .ok (.iload 4, 2) := by decide +kernel
theorem dX8_chalk_115 : decode cX8_chalk 115 = .ok (.i2l, 1) := by decide +kernel
theorem dX8_chalk_116 : decode cX8_chalk 116 = .ok (.goto 14, 3) := by decide +kernel
theorem dX8_chalk_119 : decode cX8_chalk 119 = .ok (.iload 4, 2) := by decide +kernel
theorem dX8_chalk_121 : decode cX8_chalk 121 = .ok (.i2l, 1) := by decide +kernel
theorem dX8_chalk_122 : decode cX8_chalk 122 = .ok (.ldc2_w 307, 3) := by decide +kernel
theorem dX8_chalk_125 : decode cX8_chalk 125 = .ok (.lmul, 1) := by decide +kernel
theorem dX8_chalk_126 : decode cX8_chalk 126 = .ok (.iload 5, 2) := by decide +kernel
theorem dX8_chalk_128 : decode cX8_chalk 128 = .ok (.i2l, 1) := by decide +kernel
theorem dX8_chalk_129 : decode cX8_chalk 129 = .ok (.ladd, 1) := by decide +kernel
theorem dX8_chalk_130 : decode cX8_chalk 130 = .ok (.lastore, 1) := by decide +kernel
theorem dX8_chalk_131 : decode cX8_chalk 131 = .ok (.iconst 1, 1) := by decide +kernel
theorem dX8_chalk_132 : decode cX8_chalk 132 = .ok (.ireturn, 1) := by decide +kernel
set_option maxRecDepth 20000 in
theorem ggX8_show_X8_isSlate : GoodIn wsX8_show wsX8_isSlate := goodIn_r _ [10, 11, 12, 13, 9, 14] (by decide +kernel) (by decide +kernel)
set_option maxRecDepth 20000 in
theorem gX8_show_X8_isSlate : GoodIn wsX8_show (va_wsS RX8 291 yX8_isSlate wsX8_isSlate) := goodIn_app (goodIn_of _ (by decide +kernel)) ggX8_show_X8_isSlate
set_option maxRecDepth 20000 in
theorem ggX8_show_X8_in : GoodIn wsX8_show wsX8_in := goodIn_r _ [14] (by decide +kernel) (by decide +kernel)
set_option maxRecDepth 20000 in
theorem gX8_show_X8_in : GoodIn wsX8_show (va_wsS RX8 86 yX8_in wsX8_in) := goodIn_app (goodIn_of _ (by decide +kernel)) ggX8_show_X8_in
set_option maxRecDepth 20000 in
theorem ggX8_show_X8_noPlace : GoodIn wsX8_show wsX8_noPlace := goodIn_r _ [18, 19, 20, 12, 13, 9, 14, 21, 22, 23, 24, 25, 26, 27, 28, 29, 30, 31, 32, 33, 34, 35, 36, 37, 38, 39, 40, 41, 42, 43, 44, 45, 46, 47, 48, 49, 50, 51, 52, 53, 54, 55, 56, 57] (by decide +kernel) (by decide +kernel)
set_option maxRecDepth 20000 in
theorem gX8_show_X8_noPlace : GoodIn wsX8_show (wsV RX8 300 RX8 yX8_noPlace wsX8_noPlace) := goodIn_app (goodIn_of _ (by decide +kernel)) ggX8_show_X8_noPlace
theorem dX8_show_0 : decode cX8_show 0 = .ok (.iload_n 1, 1) := by decide +kernel
theorem dX8_show_1 : decode cX8_show 1 = .ok (.invokestatic 291, 3) := by decide +kernel
theorem dX8_show_4 : decode cX8_show 4 = .ok (.ifCond .ne 6, 3) := by decide +kernel
theorem dX8_show_7 : decode cX8_show 7 = .ok (.bipush (-2), 2) := by decide +kernel
theorem dX8_show_9 : decode cX8_show 9 = .ok (.ireturn, 1) := by decide +kernel
theorem dX8_show_10 : decode cX8_show 10 = .ok (.iload_n 2, 1) := by decide +kernel
theorem dX8_show_11 : decode cX8_show 11 = .ok (.i2l, 1) := by decide +kernel
theorem dX8_show_12 : decode cX8_show 12 = .ok (.lconst 0, 1) := by decide +kernel
theorem dX8_show_13 : decode cX8_show 13 = .ok (.ldc2_w 294, 3) := by decide +kernel
theorem dX8_show_16 : decode cX8_show 16 = .ok (.invokestatic 86, 3) := by decide +kernel
theorem dX8_show_19 : decode cX8_show 19 = .ok (.ifCond .eq 14, 3) := by decide +kernel
theorem dX8_show_22 : decode cX8_show 22 = .ok (.iload 4, 2) := by decide +kernel
theorem dX8_show_24 : decode cX8_show 24 = .ok (.i2l, 1) := by decide +kernel
theorem dX8_show_25 : decode cX8_show 25 = .ok (.lconst 0, 1) := by decide +kernel
theorem dX8_show_26 : decode cX8_show 26 = .ok (.lconst 1, 1) := by decide +kernel
theorem dX8_show_27 : decode cX8_show 27 = .ok (.invokestatic 86, 3) := by decide +kernel
theorem dX8_show_30 : decode cX8_show 30 = .ok (.ifCond .ne 6, 3) := by decide +kernel
theorem dX8_show_33 : decode cX8_show 33 = .ok (.bipush (-3), 2) := by decide +kernel
theorem dX8_show_35 : decode cX8_show 35 = .ok (.ireturn, 1) := by decide +kernel
theorem dX8_show_36 : decode cX8_show 36 = .ok (.aload_n 0, 1) := by decide +kernel
theorem dX8_show_37 : decode cX8_show 37 = .ok (.iload_n 1, 1) := by decide +kernel
theorem dX8_show_38 : decode cX8_show 38 = .ok (.iload_n 2, 1) := by decide +kernel
theorem dX8_show_39 : decode cX8_show 39 = .ok (.iload_n 3, 1) := by decide +kernel
theorem dX8_show_40 : decode cX8_show 40 = .ok (.invokevirtual 300, 3) := by decide +kernel
theorem dX8_show_43 : decode cX8_show 43 = .ok (.istore 5, 2) := by decide +kernel
theorem dX8_show_45 : decode cX8_show 45 = .ok (.iload 5, 2) := by decide +kernel
theorem dX8_show_47 : decode cX8_show 47 = .ok (.ifCond .eq 6, 3) := by decide +kernel
theorem dX8_show_50 : decode cX8_show 50 = .ok (.iload 5, 2) := by decide +kernel
theorem dX8_show_52 : decode cX8_show 52 = .ok (.ireturn, 1) := by decide +kernel
theorem dX8_show_53 : decode cX8_show 53 = .ok (.aload_n 0, 1) := by decide +kernel
theorem dX8_show_54 : decode cX8_show 54 = .ok (.getfield 38, 3) := by decide +kernel
theorem dX8_show_57 : decode cX8_show 57 = .ok (.bipush 10, 2) := by decide +kernel
theorem dX8_show_59 : decode cX8_show 59 = .ok (.iload_n 1, 1) := by decide +kernel
theorem dX8_show_60 : decode cX8_show 60 = .ok (.imul, 1) := by decide +kernel
theorem dX8_show_61 : decode cX8_show 61 = .ok (.iload_n 3, 1) := by decide +kernel
theorem dX8_show_62 : decode cX8_show 62 = .ok (.iadd, 1) := by decide +kernel
theorem dX8_show_63 : decode cX8_show 63 = .ok (.laload, 1) := by decide +kernel
theorem dX8_show_64 : decode cX8_show 64 = .ok (.lstore 6, 2) := by decide +kernel
theorem dX8_show_66 : decode cX8_show 66 = .ok (.iload_n 2, 1) := by decide +kernel
theorem dX8_show_67 : decode cX8_show 67 = .ok (.iconst 2, 1) := by decide +kernel
theorem dX8_show_68 : decode cX8_show 68 = .ok (.if_icmp .ge 32, 3) := by decide +kernel
theorem dX8_show_71 : decode cX8_show 71 = .ok (.lload 6, 2) := by decide +kernel
theorem dX8_show_73 : decode cX8_show 73 = .ok (.lconst 0, 1) := by decide +kernel
theorem dX8_show_74 : decode cX8_show 74 = .ok (.lcmp, 1) := by decide +kernel
theorem dX8_show_75 : decode cX8_show 75 = .ok (.ifCond .ge 17, 3) := by decide +kernel
theorem dX8_show_78 : decode cX8_show 78 = .ok (.lload 6, 2) := by decide +kernel
theorem dX8_show_80 : decode cX8_show 80 = .ok (.lneg, 1) := by decide +kernel
theorem dX8_show_81 : decode cX8_show 81 = .ok (.ldc2_w 309, 3) := by decide +kernel
theorem dX8_show_84 : decode cX8_show 84 = .ok (.lrem, 1) := by decide +kernel
theorem dX8_show_85 : decode cX8_show 85 = .ok (.ldc2_w 311, 3) := by decide +kernel
theorem dX8_show_88 : decode cX8_show 88 = .ok (.ladd, 1) := by decide +kernel
theorem dX8_show_89 : decode cX8_show 89 = .ok (.goto 9, 3) := by decide +kernel
theorem dX8_show_92 : decode cX8_show 92 = .ok (.lload 6, 2) := by decide +kernel
theorem dX8_show_94 : decode cX8_show 94 = .ok (.ldc2_w 309, 3) := by decide +kernel
theorem dX8_show_97 : decode cX8_show 97 = .ok (.lrem, 1) := by decide +kernel
theorem dX8_show_98 : decode cX8_show 98 = .ok (.l2i, 1) := by decide +kernel
theorem dX8_show_99 : decode cX8_show 99 = .ok (.ireturn, 1) := by decide +kernel
theorem dX8_show_100 : decode cX8_show 100 = .ok (.aload_n 0, 1) := by decide +kernel
theorem dX8_show_101 : decode cX8_show 101 = .ok (.getfield 42, 3) := by decide +kernel
theorem dX8_show_104 : decode cX8_show 104 = .ok (.bipush 10, 2) := by decide +kernel
theorem dX8_show_106 : decode cX8_show 106 = .ok (.iload_n 1, 1) := by decide +kernel
theorem dX8_show_107 : decode cX8_show 107 = .ok (.imul, 1) := by decide +kernel
theorem dX8_show_108 : decode cX8_show 108 = .ok (.iload_n 3, 1) := by decide +kernel
theorem dX8_show_109 : decode cX8_show 109 = .ok (.iadd, 1) := by decide +kernel
theorem dX8_show_110 : decode cX8_show 110 = .ok (.iaload, 1) := by decide +kernel
theorem dX8_show_111 : decode cX8_show 111 = .ok (.istore 8, 2) := by decide +kernel
theorem dX8_show_113 : decode cX8_show 113 = .ok (.iload 8, 2) := by decide +kernel
theorem dX8_show_115 : decode cX8_show 115 = .ok (.ifCond .ne 8, 3) := by decide +kernel
theorem dX8_show_118 : decode cX8_show 118 = .ok (.bipush (-15), 2) := by decide +kernel
theorem dX8_show_120 : decode cX8_show 120 = .ok (.goto 20, 3) := by decide +kernel
theorem dX8_show_123 : decode cX8_show 123 = .ok (.iload 4, 2) := by decide +kernel
theorem dX8_show_125 : decode cX8_show 125 = .ok (.ifCond .ne 13, 3) := by decide +kernel
theorem dX8_show_128 : decode cX8_show 128 = .ok (.lload 6, 2) := by decide +kernel
theorem dX8_show_130 : decode cX8_show 130 = .ok (.l2i, 1) := by decide +kernel
theorem dX8_show_131 : decode cX8_show 131 = .ok (.ldc_w 313, 3) := by decide +kernel
theorem dX8_show_134 : decode cX8_show 134 = .ok (.iadd, 1) := by decide +kernel
theorem dX8_show_135 : decode cX8_show 135 = .ok (.goto 5, 3) := by decide +kernel
theorem dX8_show_138 : decode cX8_show 138 = .ok (.iload 8, 2) := by decide +kernel
theorem dX8_show_140 : decode cX8_show 140 = .ok (.ireturn, 1) := by decide +kernel
set_option maxRecDepth 20000 in
theorem ggX8_reckon_X8_isSlate : GoodIn wsX8_reckon wsX8_isSlate := goodIn_r _ [9, 10, 11, 12, 8, 13] (by decide +kernel) (by decide +kernel)
set_option maxRecDepth 20000 in
theorem gX8_reckon_X8_isSlate : GoodIn wsX8_reckon (va_wsS RX8 291 yX8_isSlate wsX8_isSlate) := goodIn_app (goodIn_of _ (by decide +kernel)) ggX8_reckon_X8_isSlate
set_option maxRecDepth 20000 in
theorem ggX8_reckon_X8_in : GoodIn wsX8_reckon wsX8_in := goodIn_r _ [13] (by decide +kernel) (by decide +kernel)
set_option maxRecDepth 20000 in
theorem gX8_reckon_X8_in : GoodIn wsX8_reckon (va_wsS RX8 86 yX8_in wsX8_in) := goodIn_app (goodIn_of _ (by decide +kernel)) ggX8_reckon_X8_in
set_option maxRecDepth 20000 in
theorem ggX8_reckon_X8_noPlace : GoodIn wsX8_reckon wsX8_noPlace := goodIn_r _ [17, 18, 19, 11, 12, 8, 13, 27, 28, 29, 30, 31, 32, 33, 34, 35, 36, 37, 38, 39, 40, 41, 42, 43, 44, 45, 46, 47, 48, 49, 50, 51, 52, 53, 54, 55, 56, 57, 58, 59, 60, 61, 62, 63] (by decide +kernel) (by decide +kernel)
set_option maxRecDepth 20000 in
theorem gX8_reckon_X8_noPlace : GoodIn wsX8_reckon (wsV RX8 300 RX8 yX8_noPlace wsX8_noPlace) := goodIn_app (goodIn_of _ (by decide +kernel)) ggX8_reckon_X8_noPlace
set_option maxRecDepth 20000 in
theorem ggX8_reckon_X8_layPart : GoodIn wsX8_reckon wsX8_layPart := goodIn_r _ [23, 2, 3, 24, 25, 8, 26, 27, 28, 29, 30, 31, 32, 33, 34, 35, 36, 37, 38, 39, 40, 41, 42, 43, 44, 45, 46, 47, 48, 49, 50, 51, 52, 53, 54, 55, 56, 57, 58, 59, 60, 61, 62, 63] (by decide +kernel) (by decide +kernel)
set_option maxRecDepth 20000 in
theorem gX8_reckon_X8_layPart : GoodIn wsX8_reckon (wsV RX8 303 RX8 yX8_layPart wsX8_layPart) := goodIn_app (goodIn_of _ (by decide +kernel)) ggX8_reckon_X8_layPart
theorem dX8_reckon_0 : decode cX8_reckon 0 = .ok (.iload_n 1, 1) := by decide +kernel
theorem dX8_reckon_1 : decode cX8_reckon 1 = .ok (.invokestatic 291, 3) := by decide +kernel
theorem dX8_reckon_4 : decode cX8_reckon 4 = .ok (.ifCond .ne 6, 3) := by decide +kernel
theorem dX8_reckon_7 : decode cX8_reckon 7 = .ok (.bipush (-2), 2) := by decide +kernel
theorem dX8_reckon_9 : decode cX8_reckon 9 = .ok (.ireturn, 1) := by decide +kernel
theorem dX8_reckon_10 : decode cX8_reckon 10 = .ok (.iload 5, 2) := by decide +kernel
theorem dX8_reckon_12 : decode cX8_reckon 12 = .ok (.i2l, 1) := by decide +kernel
theorem dX8_reckon_13 : decode cX8_reckon 13 = .ok (.lconst 0, 1) := by decide +kernel
theorem dX8_reckon_14 : decode cX8_reckon 14 = .ok (.ldc2_w 294, 3) := by decide +kernel
theorem dX8_reckon_17 : decode cX8_reckon 17 = .ok (.invokestatic 86, 3) := by decide +kernel
theorem dX8_reckon_20 : decode cX8_reckon 20 = .ok (.ifCond .ne 6, 3) := by decide +kernel
theorem dX8_reckon_23 : decode cX8_reckon 23 = .ok (.bipush (-3), 2) := by decide +kernel
theorem dX8_reckon_25 : decode cX8_reckon 25 = .ok (.ireturn, 1) := by decide +kernel
theorem dX8_reckon_26 : decode cX8_reckon 26 = .ok (.aload_n 0, 1) := by decide +kernel
theorem dX8_reckon_27 : decode cX8_reckon 27 = .ok (.iload_n 1, 1) := by decide +kernel
theorem dX8_reckon_28 : decode cX8_reckon 28 = .ok (.iconst 2, 1) := by decide +kernel
theorem dX8_reckon_29 : decode cX8_reckon 29 = .ok (.iload_n 3, 1) := by decide +kernel
theorem dX8_reckon_30 : decode cX8_reckon 30 = .ok (.invokevirtual 300, 3) := by decide +kernel
theorem dX8_reckon_33 : decode cX8_reckon 33 = .ok (.istore 6, 2) := by decide +kernel
theorem dX8_reckon_35 : decode cX8_reckon 35 = .ok (.iload 6, 2) := by decide +kernel
theorem dX8_reckon_37 : decode cX8_reckon 37 = .ok (.ifCond .eq 8, 3) := by decide +kernel
theorem dX8_reckon_40 : decode cX8_reckon 40 = .ok (.iload 6, 2) := by decide +kernel
theorem dX8_reckon_42 : decode cX8_reckon 42 = .ok (.goto 11, 3) := by decide +kernel
theorem dX8_reckon_45 : decode cX8_reckon 45 = .ok (.aload_n 0, 1) := by decide +kernel
theorem dX8_reckon_46 : decode cX8_reckon 46 = .ok (.iload_n 1, 1) := by decide +kernel
theorem dX8_reckon_47 : decode cX8_reckon 47 = .ok (.iconst 2, 1) := by decide +kernel
theorem dX8_reckon_48 : decode cX8_reckon 48 = .ok (.iload 4, 2) := by decide +kernel
theorem dX8_reckon_50 : decode cX8_reckon 50 = .ok (.invokevirtual 300, 3) := by decide +kernel
theorem dX8_reckon_53 : decode cX8_reckon 53 = .ok (.istore 6, 2) := by decide +kernel
theorem dX8_reckon_55 : decode cX8_reckon 55 = .ok (.iload 6, 2) := by decide +kernel
theorem dX8_reckon_57 : decode cX8_reckon 57 = .ok (.ifCond .eq 8, 3) := by decide +kernel
theorem dX8_reckon_60 : decode cX8_reckon 60 = .ok (.iload 6, 2) := by decide +kernel
theorem dX8_reckon_62 : decode cX8_reckon 62 = .ok (.goto 10, 3) := by decide +kernel
theorem dX8_reckon_65 : decode cX8_reckon 65 = .ok (.aload_n 0, 1) := by decide +kernel
theorem dX8_reckon_66 : decode cX8_reckon 66 = .ok (.iload_n 1, 1) := by decide +kernel
theorem dX8_reckon_67 : decode cX8_reckon 67 = .ok (.iconst 2, 1) := by decide +kernel
theorem dX8_reckon_68 : decode cX8_reckon 68 = .ok (.iload_n 2, 1) := by decide +kernel
theorem dX8_reckon_69 : decode cX8_reckon 69 = .ok (.invokevirtual 300, 3) := by decide +kernel
theorem dX8_reckon_72 : decode cX8_reckon 72 = .ok (.istore 6, 2) := by decide +kernel
theorem dX8_reckon_74 : decode cX8_reckon 74 = .ok (.iload 6, 2) := by decide +kernel
theorem dX8_reckon_76 : decode cX8_reckon 76 = .ok (.ifCond .eq 6, 3) := by decide +kernel
theorem dX8_reckon_79 : decode cX8_reckon 79 = .ok (.iload 6, 2) := by decide +kernel
theorem dX8_reckon_81 : decode cX8_reckon 81 = .ok (.ireturn, 1) := by decide +kernel
theorem dX8_reckon_82 : decode cX8_reckon 82 = .ok (.aload_n 0, 1) := by decide +kernel
theorem dX8_reckon_83 : decode cX8_reckon 83 = .ok (.getfield 38, 3) := by decide +kernel
theorem dX8_reckon_86 : decode cX8_reckon 86 = .ok (.bipush 10, 2) := by decide +kernel
theorem dX8_reckon_88 : decode cX8_reckon 88 = .ok (.iload_n 1, 1) := by decide +kernel
theorem dX8_reckon_89 : decode cX8_reckon 89 = .ok (.imul, 1) := by decide +kernel
theorem dX8_reckon_90 : decode cX8_reckon 90 = .ok (.iload_n 3, 1) := by decide +kernel
theorem dX8_reckon_91 : decode cX8_reckon 91 = .ok (.iadd, 1) := by decide +kernel
theorem dX8_reckon_92 : decode cX8_reckon 92 = .ok (.laload, 1) := by decide +kernel
theorem dX8_reckon_93 : decode cX8_reckon 93 = .ok (.lstore 7, 2) := by decide +kernel
theorem dX8_reckon_95 : decode cX8_reckon 95 = .ok (.aload_n 0, 1) := by decide +kernel
theorem dX8_reckon_96 : decode cX8_reckon 96 = .ok (.getfield 42, 3) := by decide +kernel
theorem dX8_reckon_99 : decode cX8_reckon 99 = .ok (.bipush 10, 2) := by decide +kernel
theorem dX8_reckon_101 : decode cX8_reckon 101 = .ok (.iload_n 1, 1) := by decide +kernel
theorem dX8_reckon_102 : decode cX8_reckon 102 = .ok (.imul, 1) := by decide +kernel
theorem dX8_reckon_103 : decode cX8_reckon 103 = .ok (.iload_n 3, 1) := by decide +kernel
theorem dX8_reckon_104 : decode cX8_reckon 104 = .ok (.iadd, 1) := by decide +kernel
theorem dX8_reckon_105 : decode cX8_reckon 105 = .ok (.iaload, 1) := by decide +kernel
theorem dX8_reckon_106 : decode cX8_reckon 106 = .ok (.i2l, 1) := by decide +kernel
theorem dX8_reckon_107 : decode cX8_reckon 107 = .ok (.lstore 9, 2) := by decide +kernel
theorem dX8_reckon_109 : decode cX8_reckon 109 = .ok (.aload_n 0, 1) := by decide +kernel
theorem dX8_reckon_110 : decode cX8_reckon 110 = .ok (.getfield 38, 3) := by decide +kernel
theorem dX8_reckon_113 : decode cX8_reckon 113 = .ok (.bipush 10, 2) := by decide +kernel
theorem dX8_reckon_115 : decode cX8_reckon 115 = .ok (.iload_n 1, 1) := by decide +kernel
theorem dX8_reckon_116 : decode cX8_reckon 116 = .ok (.imul, 1) := by decide +kernel
theorem dX8_reckon_117 : decode cX8_reckon 117 = .ok (.iload 4, 2) := by decide +kernel
theorem dX8_reckon_119 : decode cX8_reckon 119 = .ok (.iadd, 1) := by decide +kernel
theorem dX8_reckon_120 : decode cX8_reckon 120 = .ok (.laload, 1) := by decide +kernel
theorem dX8_reckon_121 : decode cX8_reckon 121 = .ok (.lstore 11, 2) := by decide +kernel
theorem dX8_reckon_123 : decode cX8_reckon 123 = .ok (.aload_n 0, 1) := by decide +kernel
theorem dX8_reckon_124 : decode cX8_reckon 124 = .ok (.getfield 42, 3) := by decide +kernel
theorem dX8_reckon_127 : decode cX8_reckon 127 = .ok (.bipush 10, 2) := by decide +kernel
theorem dX8_reckon_129 : decode cX8_reckon 129 = .ok (.iload_n 1, 1) := by decide +kernel
theorem dX8_reckon_130 : decode cX8_reckon 130 = .ok (.imul, 1) := by decide +kernel
theorem dX8_reckon_131 : decode cX8_reckon 131 = .ok (.iload 4, 2) := by decide +kernel
theorem dX8_reckon_133 : decode cX8_reckon 133 = .ok (.iadd, 1) := by decide +kernel
theorem dX8_reckon_134 : decode cX8_reckon 134 = .ok (.iaload, 1) := by decide +kernel
theorem dX8_reckon_135 : decode cX8_reckon 135 = .ok (.i2l, 1) := by decide +kernel
theorem dX8_reckon_136 : decode cX8_reckon 136 = .ok (.lstore 13, 2) := by decide +kernel
theorem dX8_reckon_138 : decode cX8_reckon 138 = .ok (.lload 9, 2) := by decide +kernel
theorem dX8_reckon_140 : decode cX8_reckon 140 = .ok (.lconst 0, 1) := by decide +kernel
theorem dX8_reckon_141 : decode cX8_reckon 141 = .ok (.lcmp, 1) := by decide +kernel
theorem dX8_reckon_142 : decode cX8_reckon 142 = .ok (.ifCond .eq 10, 3) := by decide +kernel
theorem dX8_reckon_145 : decode cX8_reckon 145 = .ok (.lload 13, 2) := by decide +kernel
theorem dX8_reckon_147 : decode cX8_reckon 147 = .ok (.lconst 0, 1) := by decide +kernel
theorem dX8_reckon_148 : decode cX8_reckon 148 = .ok (.lcmp, 1) := by decide +kernel
theorem dX8_reckon_149 : decode cX8_reckon 149 = .ok (.ifCond .ne 6, 3) := by decide +kernel
theorem dX8_reckon_152 : decode cX8_reckon 152 = .ok (.bipush (-15), 2) := by decide +kernel
theorem dX8_reckon_154 : decode cX8_reckon 154 = .ok (.ireturn, 1) := by decide +kernel
theorem dX8_reckon_155 : decode cX8_reckon 155 = .ok (.iload 5, 2) := by decide +kernel
theorem dX8_reckon_157 : decode cX8_reckon 157 = .ok (.ifCond .ne 17, 3) := by decide +kernel
theorem dX8_reckon_160 : decode cX8_reckon 160 = .ok (.lload 7, 2) := by decide +kernel
theorem dX8_reckon_162 : decode cX8_reckon 162 = .ok (.lload 13, 2) := by decide +kernel
theorem dX8_reckon_164 : decode cX8_reckon 164 = .ok (.lmul, 1) := by decide +kernel
theorem dX8_reckon_165 : decode cX8_reckon 165 = .ok (.lload 11, 2) := by decide +kernel
theorem dX8_reckon_167 : decode cX8_reckon 167 = .ok (.lload 9, 2) := by decide +kernel
theorem dX8_reckon_169 : decode cX8_reckon 169 = .ok (.lmul, 1) := by decide +kernel
theorem dX8_reckon_170 : decode cX8_reckon 170 = .ok (.ladd, 1) := by decide +kernel
theorem dX8_reckon_171 : decode cX8_reckon 171 = .ok (.goto 28, 3) := by decide +kernel
theorem dX8_reckon_174 : decode cX8_reckon 174 = .ok (.iload 5, 2) := by decide +kernel
theorem dX8_reckon_176 : decode cX8_reckon 176 = .ok (.iconst 1, 1) := by decide +kernel
theorem dX8_reckon_177 : decode cX8_reckon 177 = .ok (.if_icmp .ne 17, 3) := by decide +kernel
theorem dX8_reckon_180 : decode cX8_reckon 180 = .ok (.lload 7, 2) := by decide +kernel
theorem dX8_reckon_182 : decode cX8_reckon 182 = .ok (.lload 13, 2) := by decide +kernel
theorem dX8_reckon_184 : decode cX8_reckon 184 = .ok (.lmul, 1) := by decide +kernel
theorem dX8_reckon_185 : decode cX8_reckon 185 = .ok (.lload 11, 2) := by decide +kernel
theorem dX8_reckon_187 : decode cX8_reckon 187 = .ok (.lload 9, 2) := by decide +kernel
theorem dX8_reckon_189 : decode cX8_reckon 189 = .ok (.lmul, 1) := by decide +kernel
theorem dX8_reckon_190 : decode cX8_reckon 190 = .ok (.lsub, 1) := by decide +kernel
theorem dX8_reckon_191 : decode cX8_reckon 191 = .ok (.goto 8, 3) := by decide +kernel
theorem dX8_reckon_194 : decode cX8_reckon 194 = .ok (.lload 7, 2) := by decide +kernel
theorem dX8_reckon_196 : decode cX8_reckon 196 = .ok (.lload 11, 2) := by decide +kernel
theorem dX8_reckon_198 : decode cX8_reckon 198 = .ok (.lmul, 1) := by decide +kernel
theorem dX8_reckon_199 : decode cX8_reckon 199 = .ok (.lstore 15, 2) := by decide +kernel
theorem dX8_reckon_201 : decode cX8_reckon 201 = .ok (.lload 15, 2) := by decide +kernel
theorem dX8_reckon_203 : decode cX8_reckon 203 = .ok (.lconst 0, 1) := by decide +kernel
theorem dX8_reckon_204 : decode cX8_reckon 204 = .ok (.lcmp, 1) := by decide +kernel
theorem dX8_reckon_205 : decode cX8_reckon 205 = .ok (.ifCond .ge 9, 3) := by decide +kernel
theorem dX8_reckon_208 : decode cX8_reckon 208 = .ok (.lload 15, 2) := by decide +kernel
theorem dX8_reckon_210 : decode cX8_reckon 210 = .ok (.lneg, 1) := by decide +kernel
theorem dX8_reckon_211 : decode cX8_reckon 211 = .ok (.goto 5, 3) := by decide +kernel
theorem dX8_reckon_214 : decode cX8_reckon 214 = .ok (.lload 15, 2) := by decide +kernel
theorem dX8_reckon_216 : decode cX8_reckon 216 = .ok (.lstore 17, 2) := by decide +kernel
theorem dX8_reckon_218 : decode cX8_reckon 218 = .ok (.lload 9, 2) := by decide +kernel
theorem dX8_reckon_220 : decode cX8_reckon 220 = .ok (.lload 13, 2) := by decide +kernel
theorem dX8_reckon_222 : decode cX8_reckon 222 = .ok (.lmul, 1) := by decide +kernel
theorem dX8_reckon_223 : decode cX8_reckon 223 = .ok (.lstore 19, 2) := by decide +kernel
theorem dX8_reckon_225 : decode cX8_reckon 225 = .ok (.lload 19, 2) := by decide +kernel
theorem dX8_reckon_227 : decode cX8_reckon 227 = .ok (.lconst 0, 1) := by decide +kernel
theorem dX8_reckon_228 : decode cX8_reckon 228 = .ok (.lcmp, 1) := by decide +kernel
theorem dX8_reckon_229 : decode cX8_reckon 229 = .ok (.ifCond .eq 21, 3) := by decide +kernel
theorem dX8_reckon_232 : decode cX8_reckon 232 = .ok (.lload 17, 2) := by decide +kernel
theorem dX8_reckon_234 : decode cX8_reckon 234 = .ok (.lload 19, 2) := by decide +kernel
theorem dX8_reckon_236 : decode cX8_reckon 236 = .ok (.lrem, 1) := by decide +kernel
theorem dX8_reckon_237 : decode cX8_reckon 237 = .ok (.lstore 21, 2) := by decide +kernel
theorem dX8_reckon_239 : decode cX8_reckon 239 = .ok (.lload 19, 2) := by decide +kernel
theorem dX8_reckon_241 : decode cX8_reckon 241 = .ok (.lstore 17, 2) := by decide +kernel
theorem dX8_reckon_243 : decode cX8_reckon 243 = .ok (.lload 21, 2) := by decide +kernel
theorem dX8_reckon_245 : decode cX8_reckon 245 = .ok (.lstore 19, 2) := by decide +kernel
theorem dX8_reckon_247 : decode cX8_reckon 247 = .ok (.goto (-22), 3) := by decide +kernel
theorem dX8_reckon_250 : decode cX8_reckon 250 = .ok (.lload 15, 2) := by decide +kernel
theorem dX8_reckon_252 : decode cX8_reckon 252 = .ok (.lload 17, 2) := by decide +kernel
theorem dX8_reckon_254 : decode cX8_reckon 254 = .ok (.ldiv, 1) := by decide +kernel
theorem dX8_reckon_255 : decode cX8_reckon 255 = .ok (.ldc2_w 296, 3) := by decide +kernel
theorem dX8_reckon_258 : decode cX8_reckon 258 = .ok (.ldc2_w 298, 3) := by decide +kernel
theorem dX8_reckon_261 : decode cX8_reckon 261 = .ok (.invokestatic 86, 3) := by decide +kernel
theorem dX8_reckon_264 : decode cX8_reckon 264 = .ok (.ifCond .eq 18, 3) := by decide +kernel
theorem dX8_reckon_267 : decode cX8_reckon 267 = .ok (.lload 9, 2) := by decide +kernel
theorem dX8_reckon_269 : decode cX8_reckon 269 = .ok (.lload 13, 2) := by decide +kernel
theorem dX8_reckon_271 : decode cX8_reckon 271 = .ok (.lmul, 1) := by decide +kernel
theorem dX8_reckon_272 : decode cX8_reckon 272 = .ok (.lload 17, 2) := by decide +kernel
theorem dX8_reckon_274 : decode cX8_reckon 274 = .ok (.ldiv, 1) := by decide +kernel
theorem dX8_reckon_275 : decode cX8_reckon 275 = .ok (.ldc2_w 298, 3) := by decide +kernel
theorem dX8_reckon_278 : decode cX8_reckon 278 = .ok (.lcmp, 1) := by decide +kernel
theorem dX8_reckon_279 : decode cX8_reckon 279 = .ok (.ifCond .le 6, 3) := by decide +kernel
theorem dX8_reckon_282 : decode cX8_reckon 282 = .ok (.bipush (-4), 2) := by decide +kernel
theorem dX8_reckon_284 : decode cX8_reckon 284 = .ok (.ireturn, 1) := by decide +kernel
theorem dX8_reckon_285 : decode cX8_reckon 285 = .ok (.aload_n 0, 1) := by decide +kernel
theorem dX8_reckon_286 : decode cX8_reckon 286 = .ok (.bipush 10, 2) := by decide +kernel
theorem dX8_reckon_288 : decode cX8_reckon 288 = .ok (.iload_n 1, 1) := by decide +kernel
theorem dX8_reckon_289 : decode cX8_reckon 289 = .ok (.imul, 1) := by decide +kernel
theorem dX8_reckon_290 : decode cX8_reckon 290 = .ok (.iload_n 2, 1) := by decide +kernel
theorem dX8_reckon_291 : decode cX8_reckon 291 = .ok (.iadd, 1) := by decide +kernel
theorem dX8_reckon_292 : decode cX8_reckon 292 = .ok (.lload 15, 2) := by decide +kernel
theorem dX8_reckon_294 : decode cX8_reckon 294 = .ok (.lload 17, 2) := by decide +kernel
theorem dX8_reckon_296 : decode cX8_reckon 296 = .ok (.ldiv, 1) := by decide +kernel
theorem dX8_reckon_297 : decode cX8_reckon 297 = .ok (.lload 9, 2) := by decide +kernel
theorem dX8_reckon_299 : decode cX8_reckon 299 = .ok (.lload 13, 2) := by decide +kernel
theorem dX8_reckon_301 : decode cX8_reckon 301 = .ok (.lmul, 1) := by decide +kernel
theorem dX8_reckon_302 : decode cX8_reckon 302 = .ok (.lload 17, 2) := by decide +kernel
theorem dX8_reckon_304 : decode cX8_reckon 304 = .ok (.ldiv, 1) := by decide +kernel
theorem dX8_reckon_305 : decode cX8_reckon 305 = .ok (.invokevirtual 303, 3) := by decide +kernel
theorem dX8_reckon_308 : decode cX8_reckon 308 = .ok (.iconst 1, 1) := by decide +kernel
theorem dX8_reckon_309 : decode cX8_reckon 309 = .ok (.ireturn, 1) := by decide +kernel
theorem dX8_isSpan_0 : decode cX8_isSpan 0 = .ok (.iload_n 2, 1) := by decide +kernel
theorem dX8_isSpan_1 : decode cX8_isSpan 1 = .ok (.ifCond .lt 27, 3) := by decide +kernel
theorem dX8_isSpan_4 : decode cX8_isSpan 4 = .ok (.iload_n 3, 1) := by decide +kernel
theorem dX8_isSpan_5 : decode cX8_isSpan 5 = .ok (.ifCond .lt 23, 3) := by decide +kernel
theorem dX8_isSpan_8 : decode cX8_isSpan 8 = .ok (.iload_n 2, 1) := by decide +kernel
theorem dX8_isSpan_9 : decode cX8_isSpan 9 = .ok (.i2l, 1) := by decide +kernel
theorem dX8_isSpan_10 : decode cX8_isSpan 10 = .ok (.iload_n 3, 1) := by decide +kernel
theorem dX8_isSpan_11 : decode cX8_isSpan 11 = .ok (.i2l, 1) := by decide +kernel
theorem dX8_isSpan_12 : decode cX8_isSpan 12 = .ok (.ladd, 1) := by decide +kernel
theorem dX8_isSpan_13 : decode cX8_isSpan 13 = .ok (.aload_n 0, 1) := by decide +kernel
theorem dX8_isSpan_14 : decode cX8_isSpan 14 = .ok (.getfield 32, 3) := by decide +kernel
theorem dX8_isSpan_17 : decode cX8_isSpan 17 = .ok (.iload_n 1, 1) := by decide +kernel
theorem dX8_isSpan_18 : decode cX8_isSpan 18 = .ok (.iaload, 1) := by decide +kernel
theorem dX8_isSpan_19 : decode cX8_isSpan 19 = .ok (.i2l, 1) := by decide +kernel
theorem dX8_isSpan_20 : decode cX8_isSpan 20 = .ok (.lcmp, 1) := by decide +kernel
theorem dX8_isSpan_21 : decode cX8_isSpan 21 = .ok (.ifCond .gt 7, 3) := by decide +kernel
theorem dX8_isSpan_24 : decode cX8_isSpan 24 = .ok (.iconst 1, 1) := by decide +kernel
theorem dX8_isSpan_25 : decode cX8_isSpan 25 = .ok (.goto 4, 3) := by decide +kernel
theorem dX8_isSpan_28 : decode cX8_isSpan 28 = .ok (.iconst 0, 1) := by decide +kernel
theorem dX8_isSpan_29 : decode cX8_isSpan 29 = .ok (.ireturn, 1) := by decide +kernel
set_option maxRecDepth 20000 in
theorem ggX8_copy_X8_isSlate : GoodIn wsX8_copy wsX8_isSlate := goodIn_r _ [10, 11, 12, 13, 9, 14] (by decide +kernel) (by decide +kernel)
set_option maxRecDepth 20000 in
theorem gX8_copy_X8_isSlate : GoodIn wsX8_copy (va_wsS RX8 291 yX8_isSlate wsX8_isSlate) := goodIn_app (goodIn_of _ (by decide +kernel)) ggX8_copy_X8_isSlate
set_option maxRecDepth 20000 in
theorem ggX8_copy_X8_isSpan : GoodIn wsX8_copy wsX8_isSpan := goodIn_r _ [18, 1, 19, 20, 21, 22, 23, 24, 25, 26, 27, 28, 29, 30, 31, 32, 33, 34, 35, 36, 37, 38, 39, 40, 41, 42, 43, 44, 45, 46, 47, 48, 49, 50, 51, 52, 53, 54, 55] (by decide +kernel) (by decide +kernel)
set_option maxRecDepth 20000 in
theorem gX8_copy_X8_isSpan : GoodIn wsX8_copy (wsV RX8 314 RX8 yX8_isSpan wsX8_isSpan) := goodIn_app (goodIn_of _ (by decide +kernel)) ggX8_copy_X8_isSpan
theorem dX8_copy_0 : decode cX8_copy 0 = .ok (.iload_n 1, 1) := by decide +kernel
theorem dX8_copy_1 : decode cX8_copy 1 = .ok (.invokestatic 291, 3) := by decide +kernel
theorem dX8_copy_4 : decode cX8_copy 4 = .ok (.ifCond .eq 10, 3) := by decide +kernel
theorem dX8_copy_7 : decode cX8_copy 7 = .ok (.iload_n 3, 1) := by decide +kernel
theorem dX8_copy_8 : decode cX8_copy 8 = .ok (.invokestatic 291, 3) := by decide +kernel
theorem dX8_copy_11 : decode cX8_copy 11 = .ok (.ifCond .ne 6, 3) := by decide +kernel
theorem dX8_copy_14 : decode cX8_copy 14 = .ok (.bipush (-2), 2) := by decide +kernel
theorem dX8_copy_16 : decode cX8_copy 16 = .ok (.ireturn, 1) := by decide +kernel
theorem dX8_copy_17 : decode cX8_copy 17 = .ok (.aload_n 0, 1) := by decide +kernel
theorem dX8_copy_18 : decode cX8_copy 18 = .ok (.getfield 32, 3) := by decide +kernel
theorem dX8_copy_21 : decode cX8_copy 21 = .ok (.iload_n 1, 1) := by decide +kernel
theorem dX8_copy_22 : decode cX8_copy 22 = .ok (.iaload, 1) := by decide +kernel
theorem dX8_copy_23 : decode cX8_copy 23 = .ok (.ifCond .lt 12, 3) := by decide +kernel
theorem dX8_copy_26 : decode cX8_copy 26 = .ok (.aload_n 0, 1) := by decide +kernel
theorem dX8_copy_27 : decode cX8_copy 27 = .ok (.getfield 32, 3) := by decide +kernel
theorem dX8_copy_30 : decode cX8_copy 30 = .ok (.iload_n 3, 1) := by decide +kernel
theorem dX8_copy_31 : decode cX8_copy 31 = .ok (.iaload, 1) := by decide +kernel
theorem dX8_copy_32 : decode cX8_copy 32 = .ok (.ifCond .ge 6, 3) := by decide +kernel
theorem dX8_copy_35 : decode cX8_copy 35 = .ok (.bipush (-11), 2) := by decide +kernel
theorem dX8_copy_37 : decode cX8_copy 37 = .ok (.ireturn, 1) := by decide +kernel
theorem dX8_copy_38 : decode cX8_copy 38 = .ok (.aload_n 0, 1) := by decide +kernel
theorem dX8_copy_39 : decode cX8_copy 39 = .ok (.getfield 35, 3) := by decide +kernel
theorem dX8_copy_42 : decode cX8_copy 42 = .ok (.iload_n 1, 1) := by decide +kernel
theorem dX8_copy_43 : decode cX8_copy 43 = .ok (.iaload, 1) := by decide +kernel
theorem dX8_copy_44 : decode cX8_copy 44 = .ok (.aload_n 0, 1) := by decide +kernel
theorem dX8_copy_45 : decode cX8_copy 45 = .ok (.getfield 35, 3) := by decide +kernel
theorem dX8_copy_48 : decode cX8_copy 48 = .ok (.iload_n 3, 1) := by decide +kernel
theorem dX8_copy_49 : decode cX8_copy 49 = .ok (.iaload, 1) := by decide +kernel
theorem dX8_copy_50 : decode cX8_copy 50 = .ok (.if_icmp .eq 6, 3) := by decide +kernel
theorem dX8_copy_53 : decode cX8_copy 53 = .ok (.bipush (-13), 2) := by decide +kernel
theorem dX8_copy_55 : decode cX8_copy 55 = .ok (.ireturn, 1) := by decide +kernel
theorem dX8_copy_56 : decode cX8_copy 56 = .ok (.aload_n 0, 1) := by decide +kernel
theorem dX8_copy_57 : decode cX8_copy 57 = .ok (.iload_n 1, 1) := by decide +kernel
theorem dX8_copy_58 : decode cX8_copy 58 = .ok (.iload_n 2, 1) := by decide +kernel
theorem dX8_copy_59 : decode cX8_copy 59 = .ok (.iload 5, 2) := by decide +kernel
theorem dX8_copy_61 : decode cX8_copy 61 = .ok (.invokevirtual 314, 3) := by decide +kernel
theorem dX8_copy_64 : decode cX8_copy 64 = .ok (.ifCond .eq 15, 3) := by decide +kernel
theorem dX8_copy_67 : decode cX8_copy 67 = .ok (.aload_n 0, 1) := by decide +kernel
theorem dX8_copy_68 : decode cX8_copy 68 = .ok (.iload_n 3, 1) := by decide +kernel
theorem dX8_copy_69 : decode cX8_copy 69 = .ok (.iload 4, 2) := by decide +kernel
theorem dX8_copy_71 : decode cX8_copy 71 = .ok (.iload 5, 2) := by decide +kernel
theorem dX8_copy_73 : decode cX8_copy 73 = .ok (.invokevirtual 314, 3) := by decide +kernel
theorem dX8_copy_76 : decode cX8_copy 76 = .ok (.ifCond .ne 6, 3) := by decide +kernel
theorem dX8_copy_79 : decode cX8_copy 79 = .ok (.bipush (-14), 2) := by decide +kernel
theorem dX8_copy_81 : decode cX8_copy 81 = .ok (.ireturn, 1) := by decide +kernel
theorem dX8_copy_82 : decode cX8_copy 82 = .ok (.iconst 0, 1) := by decide +kernel
theorem dX8_copy_83 : decode cX8_copy 83 = .ok (.istore 6, 2) := by decide +kernel
theorem dX8_copy_85 : decode cX8_copy 85 = .ok (.iload 6, 2) := by decide +kernel
theorem dX8_copy_87 : decode cX8_copy 87 = .ok (.iload 5, 2) := by decide +kernel
theorem dX8_copy_89 : decode cX8_copy 89 = .ok (.if_icmp .ge 51, 3) := by decide +kernel
theorem dX8_copy_92 : decode cX8_copy 92 = .ok (.aload_n 0, 1) := by decide +kernel
theorem dX8_copy_93 : decode cX8_copy 93 = .ok (.getfield 78, 3) := by decide +kernel
theorem dX8_copy_96 : decode cX8_copy 96 = .ok (.iload 6, 2) := by decide +kernel
theorem dX8_copy_98 : decode cX8_copy 98 = .ok (.aload_n 0, 1) := by decide +kernel
theorem dX8_copy_99 : decode cX8_copy 99 = .ok (.getfield 38, 3) := by decide +kernel
theorem dX8_copy_102 : decode cX8_copy 102 = .ok (.bipush 10, 2) := by decide +kernel
theorem dX8_copy_104 : decode cX8_copy 104 = .ok (.iload_n 1, 1) := by decide +kernel
theorem dX8_copy_105 : decode cX8_copy 105 = .ok (.imul, 1) := by decide +kernel
theorem dX8_copy_106 : decode cX8_copy 106 = .ok (.iload_n 2, 1) := by decide +kernel
theorem dX8_copy_107 : decode cX8_copy 107 = .ok (.iadd, 1) := by decide +kernel
theorem dX8_copy_108 : decode cX8_copy 108 = .ok (.iload 6, 2) := by decide +kernel
theorem dX8_copy_110 : decode cX8_copy 110 = .ok (.iadd, 1) := by decide +kernel
theorem dX8_copy_111 : decode cX8_copy 111 = .ok (.laload, 1) := by decide +kernel
theorem dX8_copy_112 : decode cX8_copy 112 = .ok (.lastore, 1) := by decide +kernel
theorem dX8_copy_113 : decode cX8_copy 113 = .ok (.aload_n 0, 1) := by decide +kernel
theorem dX8_copy_114 : decode cX8_copy 114 = .ok (.getfield 81, 3) := by decide +kernel
theorem dX8_copy_117 : decode cX8_copy 117 = .ok (.iload 6, 2) := by decide +kernel
theorem dX8_copy_119 : decode cX8_copy 119 = .ok (.aload_n 0, 1) := by decide +kernel
theorem dX8_copy_120 : decode cX8_copy 120 = .ok (.getfield 42, 3) := by decide +kernel
theorem dX8_copy_123 : decode cX8_copy 123 = .ok (.bipush 10, 2) := by decide +kernel
theorem dX8_copy_125 : decode cX8_copy 125 = .ok (.iload_n 1, 1) := by decide +kernel
theorem dX8_copy_126 : decode cX8_copy 126 = .ok (.imul, 1) := by decide +kernel
theorem dX8_copy_127 : decode cX8_copy 127 = .ok (.iload_n 2, 1) := by decide +kernel
theorem dX8_copy_128 : decode cX8_copy 128 = .ok (.iadd, 1) := by decide +kernel
theorem dX8_copy_129 : decode cX8_copy 129 = .ok (.iload 6, 2) := by decide +kernel
theorem dX8_copy_131 : decode cX8_copy 131 = .ok (.iadd, 1) := by decide +kernel
theorem dX8_copy_132 : decode cX8_copy 132 = .ok (.iaload, 1) := by decide +kernel
theorem dX8_copy_133 : decode cX8_copy 133 = .ok (.iastore, 1) := by decide +kernel
theorem dX8_copy_134 : decode cX8_copy 134 = .ok (.iinc 6 1, 3) := by decide +kernel
theorem dX8_copy_137 : decode cX8_copy 137 = .ok (.goto (-52), 3) := by decide +kernel
theorem dX8_copy_140 : decode cX8_copy 140 = .ok (.iconst 0, 1) := by decide +kernel
theorem dX8_copy_141 : decode cX8_copy 141 = .ok (.istore 6, 2) := by decide +kernel
theorem dX8_copy_143 : decode cX8_copy 143 = .ok (.iload 6, 2) := by decide +kernel
theorem dX8_copy_145 : decode cX8_copy 145 = .ok (.iload 5, 2) := by decide +kernel
theorem dX8_copy_147 : decode cX8_copy 147 = .ok (.if_icmp .ge 53, 3) := by decide +kernel
theorem dX8_copy_150 : decode cX8_copy 150 = .ok (.aload_n 0, 1) := by decide +kernel
theorem dX8_copy_151 : decode cX8_copy 151 = .ok (.getfield 38, 3) := by decide +kernel
theorem dX8_copy_154 : decode cX8_copy 154 = .ok (.bipush 10, 2) := by decide +kernel
theorem dX8_copy_156 : decode cX8_copy 156 = .ok (.iload_n 3, 1) := by decide +kernel
theorem dX8_copy_157 : decode cX8_copy 157 = .ok (.imul, 1) := by decide +kernel
theorem dX8_copy_158 : decode cX8_copy 158 = .ok (.iload 4, 2) := by decide +kernel
theorem dX8_copy_160 : decode cX8_copy 160 = .ok (.iadd, 1) := by decide +kernel
theorem dX8_copy_161 : decode cX8_copy 161 = .ok (.iload 6, 2) := by decide +kernel
theorem dX8_copy_163 : decode cX8_copy 163 = .ok (.iadd, 1) := by decide +kernel
theorem dX8_copy_164 : decode cX8_copy 164 = .ok (.aload_n 0, 1) := by decide +kernel
theorem dX8_copy_165 : decode cX8_copy 165 = .ok (.getfield 78, 3) := by decide +kernel
theorem dX8_copy_168 : decode cX8_copy 168 = .ok (.iload 6, 2) := by decide +kernel
theorem dX8_copy_170 : decode cX8_copy 170 = .ok (.laload, 1) := by decide +kernel
theorem dX8_copy_171 : decode cX8_copy 171 = .ok (.lastore, 1) := by decide +kernel
theorem dX8_copy_172 : decode cX8_copy 172 = .ok (.aload_n 0, 1) := by decide +kernel
theorem dX8_copy_173 : decode cX8_copy 173 = .ok (.getfield 42, 3) := by decide +kernel
theorem dX8_copy_176 : decode cX8_copy 176 = .ok (.bipush 10, 2) := by decide +kernel
theorem dX8_copy_178 : decode cX8_copy 178 = .ok (.iload_n 3, 1) := by decide +kernel
theorem dX8_copy_179 : decode cX8_copy 179 = .ok (.imul, 1) := by decide +kernel
theorem dX8_copy_180 : decode cX8_copy 180 = .ok (.iload 4, 2) := by decide +kernel
theorem dX8_copy_182 : decode cX8_copy 182 = .ok (.iadd, 1) := by decide +kernel
theorem dX8_copy_183 : decode cX8_copy 183 = .ok (.iload 6, 2) := by decide +kernel
theorem dX8_copy_185 : decode cX8_copy 185 = .ok (.iadd, 1) := by decide +kernel
theorem dX8_copy_186 : decode cX8_copy 186 = .ok (.aload_n 0, 1) := by decide +kernel
theorem dX8_copy_187 : decode cX8_copy 187 = .ok (.getfield 81, 3) := by decide +kernel
theorem dX8_copy_190 : decode cX8_copy 190 = .ok (.iload 6, 2) := by decide +kernel
theorem dX8_copy_192 : decode cX8_copy 192 = .ok (.iaload, 1) := by decide +kernel
theorem dX8_copy_193 : decode cX8_copy 193 = .ok (.iastore, 1) := by decide +kernel
theorem dX8_copy_194 : decode cX8_copy 194 = .ok (.iinc 6 1, 3) := by decide +kernel
theorem dX8_copy_197 : decode cX8_copy 197 = .ok (.goto (-54), 3) := by decide +kernel
theorem dX8_copy_200 : decode cX8_copy 200 = .ok (.iload 5, 2) := by decide +kernel
theorem dX8_copy_202 : decode cX8_copy 202 = .ok (.ireturn, 1) := by decide +kernel
set_option maxRecDepth 20000 in
theorem ggX8_drop_X8_isSlate : GoodIn wsX8_drop wsX8_isSlate := goodIn_r _ [5, 6, 7, 8, 4, 9] (by decide +kernel) (by decide +kernel)
set_option maxRecDepth 20000 in
theorem gX8_drop_X8_isSlate : GoodIn wsX8_drop (va_wsS RX8 291 yX8_isSlate wsX8_isSlate) := goodIn_app (goodIn_of _ (by decide +kernel)) ggX8_drop_X8_isSlate
theorem dX8_drop_0 : decode cX8_drop 0 = .ok (.iload_n 1, 1) := by decide +kernel
theorem dX8_drop_1 : decode cX8_drop 1 = .ok (.invokestatic 291, 3) := by decide +kernel
theorem dX8_drop_4 : decode cX8_drop 4 = .ok (.ifCond .ne 6, 3) := by decide +kernel
theorem dX8_drop_7 : decode cX8_drop 7 = .ok (.bipush (-2), 2) := by decide +kernel
theorem dX8_drop_9 : decode cX8_drop 9 = .ok (.ireturn, 1) := by decide +kernel
theorem dX8_drop_10 : decode cX8_drop 10 = .ok (.aload_n 0, 1) := by decide +kernel
theorem dX8_drop_11 : decode cX8_drop 11 = .ok (.getfield 32, 3) := by decide +kernel
theorem dX8_drop_14 : decode cX8_drop 14 = .ok (.iload_n 1, 1) := by decide +kernel
theorem dX8_drop_15 : decode cX8_drop 15 = .ok (.iaload, 1) := by decide +kernel
theorem dX8_drop_16 : decode cX8_drop 16 = .ok (.ifCond .ge 6, 3) := by decide +kernel
theorem dX8_drop_19 : decode cX8_drop 19 = .ok (.bipush (-11), 2) := by decide +kernel
theorem dX8_drop_21 : decode cX8_drop 21 = .ok (.ireturn, 1) := by decide +kernel
theorem dX8_drop_22 : decode cX8_drop 22 = .ok (.aload_n 0, 1) := by decide +kernel
theorem dX8_drop_23 : decode cX8_drop 23 = .ok (.getfield 32, 3) := by decide +kernel
theorem dX8_drop_26 : decode cX8_drop 26 = .ok (.iload_n 1, 1) := by decide +kernel
theorem dX8_drop_27 : decode cX8_drop 27 = .ok (.iaload, 1) := by decide +kernel
theorem dX8_drop_28 : decode cX8_drop 28 = .ok (.istore_n 2, 1) := by decide +kernel
theorem dX8_drop_29 : decode cX8_drop 29 = .ok (.aload_n 0, 1) := by decide +kernel
theorem dX8_drop_30 : decode cX8_drop 30 = .ok (.getfield 32, 3) := by decide +kernel
theorem dX8_drop_33 : decode cX8_drop 33 = .ok (.iload_n 1, 1) := by decide +kernel
theorem dX8_drop_34 : decode cX8_drop 34 = .ok (.iconst (-1), 1) := by decide +kernel
theorem dX8_drop_35 : decode cX8_drop 35 = .ok (.iastore, 1) := by decide +kernel
theorem dX8_drop_36 : decode cX8_drop 36 = .ok (.iload_n 2, 1) := by decide +kernel
theorem dX8_drop_37 : decode cX8_drop 37 = .ok (.ireturn, 1) := by decide +kernel
theorem dX8_offOnes_0 : decode cX8_offOnes 0 = .ok (.iconst 0, 1) := by decide +kernel
theorem dX8_offOnes_1 : decode cX8_offOnes 1 = .ok (.istore_n 1, 1) := by decide +kernel
theorem dX8_offOnes_2 : decode cX8_offOnes 2 = .ok (.iconst 0, 1) := by decide +kernel
theorem dX8_offOnes_3 : decode cX8_offOnes 3 = .ok (.istore_n 2, 1) := by decide +kernel
theorem dX8_offOnes_4 : decode cX8_offOnes 4 = .ok (.iload_n 2, 1) := by decide +kernel
theorem dX8_offOnes_5 : decode cX8_offOnes 5 = .ok (.aload_n 0, 1) := by decide +kernel
theorem dX8_offOnes_6 : decode cX8_offOnes 6 = .ok (.getfield 7, 3) := by decide +kernel
theorem dX8_offOnes_9 : decode cX8_offOnes 9 = .ok (.bipush 17, 2) := by decide +kernel
theorem dX8_offOnes_11 : decode cX8_offOnes 11 = .ok (.iaload, 1) := by decide +kernel
theorem dX8_offOnes_12 : decode cX8_offOnes 12 = .ok (.if_icmp .ge 31, 3) := by decide +kernel
theorem dX8_offOnes_15 : decode cX8_offOnes 15 = .ok (.iload_n 1, 1) := by decide +kernel
theorem dX8_offOnes_16 : decode cX8_offOnes 16 = .ok (.aload_n 0, 1) := by decide +kernel
theorem dX8_offOnes_17 : decode cX8_offOnes 17 = .ok (.getfield 7, 3) := by decide +kernel
theorem dX8_offOnes_20 : decode cX8_offOnes 20 = .ok (.iconst 4, 1) := by decide +kernel
theorem dX8_offOnes_21 : decode cX8_offOnes 21 = .ok (.iload_n 2, 1) := by decide +kernel
theorem dX8_offOnes_22 : decode cX8_offOnes 22 = .ok (.iadd, 1) := by decide +kernel
theorem dX8_offOnes_23 : decode cX8_offOnes 23 = .ok (.iaload, 1) := by decide +kernel
theorem dX8_offOnes_24 : decode cX8_offOnes 24 = .ok (.iconst (-1), 1) := by decide +kernel
theorem dX8_offOnes_25 : decode cX8_offOnes 25 = .ok (.if_icmp .ne 9, 3) := by decide +kernel
theorem dX8_offOnes_28 : decode cX8_offOnes 28 = .ok (.iconst 1, 1) := by decide +kernel
theorem dX8_offOnes_29 : decode cX8_offOnes 29 = .ok (.iload_n 2, 1) := by decide +kernel
theorem dX8_offOnes_30 : decode cX8_offOnes 30 = .ok (.ishl, 1) := by decide +kernel
theorem dX8_offOnes_31 : decode cX8_offOnes 31 = .ok (.goto 4, 3) := by decide +kernel
theorem dX8_offOnes_34 : decode cX8_offOnes 34 = .ok (.iconst 0, 1) := by decide +kernel
theorem dX8_offOnes_35 : decode cX8_offOnes 35 = .ok (.ior, 1) := by decide +kernel
theorem dX8_offOnes_36 : decode cX8_offOnes 36 = .ok (.istore_n 1, 1) := by decide +kernel
theorem dX8_offOnes_37 : decode cX8_offOnes 37 = .ok (.iinc 2 1, 3) := by decide +kernel
theorem dX8_offOnes_40 : decode cX8_offOnes 40 = .ok (.goto (-36), 3) := by decide +kernel
theorem dX8_offOnes_43 : decode cX8_offOnes 43 = .ok (.iload_n 1, 1) := by decide +kernel
theorem dX8_offOnes_44 : decode cX8_offOnes 44 = .ok (.ireturn, 1) := by decide +kernel
theorem dX8_slatesThere_0 : decode cX8_slatesThere 0 = .ok (.iconst 0, 1) := by decide +kernel
theorem dX8_slatesThere_1 : decode cX8_slatesThere 1 = .ok (.istore_n 1, 1) := by decide +kernel
theorem dX8_slatesThere_2 : decode cX8_slatesThere 2 = .ok (.iconst 0, 1) := by decide +kernel
theorem dX8_slatesThere_3 : decode cX8_slatesThere 3 = .ok (.istore_n 2, 1) := by decide +kernel
theorem dX8_slatesThere_4 : decode cX8_slatesThere 4 = .ok (.iload_n 2, 1) := by decide +kernel
theorem dX8_slatesThere_5 : decode cX8_slatesThere 5 = .ok (.iconst 4, 1) := by decide +kernel
theorem dX8_slatesThere_6 : decode cX8_slatesThere 6 = .ok (.if_icmp .ge 26, 3) := by decide +kernel
theorem dX8_slatesThere_9 : decode cX8_slatesThere 9 = .ok (.iload_n 1, 1) := by decide +kernel
theorem dX8_slatesThere_10 : decode cX8_slatesThere 10 = .ok (.aload_n 0, 1) := by decide +kernel
theorem dX8_slatesThere_11 : decode cX8_slatesThere 11 = .ok (.getfield 32, 3) := by decide +kernel
theorem dX8_slatesThere_14 : decode cX8_slatesThere 14 = .ok (.iload_n 2, 1) := by decide +kernel
theorem dX8_slatesThere_15 : decode cX8_slatesThere 15 = .ok (.iaload, 1) := by decide +kernel
theorem dX8_slatesThere_16 : decode cX8_slatesThere 16 = .ok (.ifCond .ge 7, 3) := by decide +kernel
theorem dX8_slatesThere_19 : decode cX8_slatesThere 19 = .ok (.iconst 0, 1) := by decide +kernel
theorem dX8_slatesThere_20 : decode cX8_slatesThere 20 = .ok (.goto 4, 3) := by decide +kernel
theorem dX8_slatesThere_23 : decode cX8_slatesThere 23 = .ok (.iconst 1, 1) := by decide +kernel
theorem dX8_slatesThere_24 : decode cX8_slatesThere 24 = .ok (.iadd, 1) := by decide +kernel
theorem dX8_slatesThere_25 : decode cX8_slatesThere 25 = .ok (.istore_n 1, 1) := by decide +kernel
theorem dX8_slatesThere_26 : decode cX8_slatesThere 26 = .ok (.iinc 2 1, 3) := by decide +kernel
theorem dX8_slatesThere_29 : decode cX8_slatesThere 29 = .ok (.goto (-25), 3) := by decide +kernel
theorem dX8_slatesThere_32 : decode cX8_slatesThere 32 = .ok (.iload_n 1, 1) := by decide +kernel
theorem dX8_slatesThere_33 : decode cX8_slatesThere 33 = .ok (.ireturn, 1) := by decide +kernel
set_option maxRecDepth 20000 in
theorem ggX8_count_X8_offOnes : GoodIn wsX8_count wsX8_offOnes := goodIn_r _ [9, 1, 19, 20, 21, 22, 23, 24, 25, 26, 27, 28, 29, 30, 31, 32, 33, 34, 35, 36, 37, 38, 39, 40, 41, 42, 43, 44, 45, 46, 47, 48, 49, 50, 51, 52, 53, 54, 55] (by decide +kernel) (by decide +kernel)
set_option maxRecDepth 20000 in
theorem gX8_count_X8_offOnes : GoodIn wsX8_count (wsV RX8 317 RX8 yX8_offOnes wsX8_offOnes) := goodIn_app (goodIn_of _ (by decide +kernel)) ggX8_count_X8_offOnes
set_option maxRecDepth 20000 in
theorem ggX8_count_X8_knownBySome : GoodIn wsX8_count wsX8_knownBySome := goodIn_r _ [13, 1, 19, 20, 21, 22, 23, 24, 25, 26, 27, 28, 29, 30, 31, 32, 33, 34, 35, 36, 37, 38, 39, 40, 41, 42, 43, 44, 45, 46, 47, 48, 49, 50, 51, 52, 53, 54, 55] (by decide +kernel) (by decide +kernel)
set_option maxRecDepth 20000 in
theorem gX8_count_X8_knownBySome : GoodIn wsX8_count (wsV RX8 269 RX8 yX8_knownBySome wsX8_knownBySome) := goodIn_app (goodIn_of _ (by decide +kernel)) ggX8_count_X8_knownBySome
set_option maxRecDepth 20000 in
theorem ggX8_count_X8_slatesThere : GoodIn wsX8_count wsX8_slatesThere := goodIn_r _ [17, 18, 19, 20, 21, 22, 23, 24, 25, 26, 27, 28, 29, 30, 31, 32, 33, 34, 35, 36, 37, 38, 39, 40, 41, 42, 43, 44, 45, 46, 47, 48, 49, 50, 51, 52, 53, 54, 55] (by decide +kernel) (by decide +kernel)
set_option maxRecDepth 20000 in
theorem gX8_count_X8_slatesThere : GoodIn wsX8_count (wsV RX8 320 RX8 yX8_slatesThere wsX8_slatesThere) := goodIn_app (goodIn_of _ (by decide +kernel)) ggX8_count_X8_slatesThere
theorem dX8_count_0 : decode cX8_count 0 = .ok (.iload_n 1, 1) := by decide +kernel
theorem dX8_count_1 : decode cX8_count 1 = .ok (.tableswitch 130 0 10 #[59, 67, 75, 83, 91, 99, 104, 110, 115, 120, 125], 59) := by decide +kernel
theorem dX8_count_60 : decode cX8_count 60 = .ok (.aload_n 0, 1) := by decide +kernel
theorem dX8_count_61 : decode cX8_count 61 = .ok (.getfield 7, 3) := by decide +kernel
theorem dX8_count_64 : decode cX8_count 64 = .ok (.bipush 23, 2) := by decide +kernel
theorem dX8_count_66 : decode cX8_count 66 = .ok (.iaload, 1) := by decide +kernel
theorem dX8_count_67 : decode cX8_count 67 = .ok (.ireturn, 1) := by decide +kernel
theorem dX8_count_68 : decode cX8_count 68 = .ok (.aload_n 0, 1) := by decide +kernel
theorem dX8_count_69 : decode cX8_count 69 = .ok (.getfield 7, 3) := by decide +kernel
theorem dX8_count_72 : decode cX8_count 72 = .ok (.bipush 16, 2) := by decide +kernel
theorem dX8_count_74 : decode cX8_count 74 = .ok (.iaload, 1) := by decide +kernel
theorem dX8_count_75 : decode cX8_count 75 = .ok (.ireturn, 1) := by decide +kernel
theorem dX8_count_76 : decode cX8_count 76 = .ok (.aload_n 0, 1) := by decide +kernel
theorem dX8_count_77 : decode cX8_count 77 = .ok (.getfield 7, 3) := by decide +kernel
theorem dX8_count_80 : decode cX8_count 80 = .ok (.bipush 17, 2) := by decide +kernel
theorem dX8_count_82 : decode cX8_count 82 = .ok (.iaload, 1) := by decide +kernel
theorem dX8_count_83 : decode cX8_count 83 = .ok (.ireturn, 1) := by decide +kernel
theorem dX8_count_84 : decode cX8_count 84 = .ok (.aload_n 0, 1) := by decide +kernel
theorem dX8_count_85 : decode cX8_count 85 = .ok (.getfield 7, 3) := by decide +kernel
theorem dX8_count_88 : decode cX8_count 88 = .ok (.bipush 15, 2) := by decide +kernel
theorem dX8_count_90 : decode cX8_count 90 = .ok (.iaload, 1) := by decide +kernel
theorem dX8_count_91 : decode cX8_count 91 = .ok (.ireturn, 1) := by decide +kernel
theorem dX8_count_92 : decode cX8_count 92 = .ok (.aload_n 0, 1) := by decide +kernel
theorem dX8_count_93 : decode cX8_count 93 = .ok (.getfield 7, 3) := by decide +kernel
theorem dX8_count_96 : decode cX8_count 96 = .ok (.bipush 14, 2) := by decide +kernel
theorem dX8_count_98 : decode cX8_count 98 = .ok (.iaload, 1) := by decide +kernel
theorem dX8_count_99 : decode cX8_count 99 = .ok (.ireturn, 1) := by decide +kernel
theorem dX8_count_100 : decode cX8_count 100 = .ok (.aload_n 0, 1) := by decide +kernel
theorem dX8_count_101 : decode cX8_count 101 = .ok (.invokevirtual 317, 3) := by decide +kernel
theorem dX8_count_104 : decode cX8_count 104 = .ok (.ireturn, 1) := by decide +kernel
theorem dX8_count_105 : decode cX8_count 105 = .ok (.aload_n 0, 1) := by decide +kernel
theorem dX8_count_106 : decode cX8_count 106 = .ok (.iconst 0, 1) := by decide +kernel
theorem dX8_count_107 : decode cX8_count 107 = .ok (.invokevirtual 269, 3) := by decide +kernel
theorem dX8_count_110 : decode cX8_count 110 = .ok (.ireturn, 1) := by decide +kernel
theorem dX8_count_111 : decode cX8_count 111 = .ok (.aload_n 0, 1) := by decide +kernel
theorem dX8_count_112 : decode cX8_count 112 = .ok (.getfield 187, 3) := by decide +kernel
theorem dX8_count_115 : decode cX8_count 115 = .ok (.ireturn, 1) := by decide +kernel
theorem dX8_count_116 : decode cX8_count 116 = .ok (.aload_n 0, 1) := by decide +kernel
theorem dX8_count_117 : decode cX8_count 117 = .ok (.invokevirtual 320, 3) := by decide +kernel
theorem dX8_count_120 : decode cX8_count 120 = .ok (.ireturn, 1) := by decide +kernel
theorem dX8_count_121 : decode cX8_count 121 = .ok (.aload_n 0, 1) := by decide +kernel
theorem dX8_count_122 : decode cX8_count 122 = .ok (.getfield 184, 3) := by decide +kernel
theorem dX8_count_125 : decode cX8_count 125 = .ok (.ireturn, 1) := by decide +kernel
theorem dX8_count_126 : decode cX8_count 126 = .ok (.aload_n 0, 1) := by decide +kernel
theorem dX8_count_127 : decode cX8_count 127 = .ok (.getfield 90, 3) := by decide +kernel
theorem dX8_count_130 : decode cX8_count 130 = .ok (.ireturn, 1) := by decide +kernel
theorem dX8_count_131 : decode cX8_count 131 = .ok (.bipush (-3), 2) := by decide +kernel
theorem dX8_count_133 : decode cX8_count 133 = .ok (.ireturn, 1) := by decide +kernel
theorem dJ6_numberOfLeadingZeros_0f7a4_0 : decode cJ6_numberOfLeadingZeros_0f7a4 0 = .ok (.iload_n 0, 1) := by decide +kernel
theorem dJ6_numberOfLeadingZeros_0f7a4_1 : decode cJ6_numberOfLeadingZeros_0f7a4 1 = .ok (.ifCond .gt 14, 3) := by decide +kernel
theorem dJ6_numberOfLeadingZeros_0f7a4_4 : decode cJ6_numberOfLeadingZeros_0f7a4 4 = .ok (.iload_n 0, 1) := by decide +kernel
theorem dJ6_numberOfLeadingZeros_0f7a4_5 : decode cJ6_numberOfLeadingZeros_0f7a4 5 = .ok (.ifCond .ne 8, 3) := by decide +kernel
theorem dJ6_numberOfLeadingZeros_0f7a4_8 : decode cJ6_numberOfLeadingZeros_0f7a4 8 = .ok (.bipush 32, 2) := by decide +kernel
theorem dJ6_numberOfLeadingZeros_0f7a4_10 : decode cJ6_numberOfLeadingZeros_0f7a4 10 = .ok (.goto 4, 3) := by decide +kernel
theorem dJ6_numberOfLeadingZeros_0f7a4_13 : decode cJ6_numberOfLeadingZeros_0f7a4 13 = .ok (.iconst 0, 1) := by decide +kernel
theorem dJ6_numberOfLeadingZeros_0f7a4_14 : decode cJ6_numberOfLeadingZeros_0f7a4 14 = .ok (.ireturn, 1) := by decide +kernel
theorem dJ6_numberOfLeadingZeros_0f7a4_15 : decode cJ6_numberOfLeadingZeros_0f7a4 15 = .ok (.bipush 31, 2) := by decide +kernel
theorem dJ6_numberOfLeadingZeros_0f7a4_17 : decode cJ6_numberOfLeadingZeros_0f7a4 17 = .ok (.istore_n 1, 1) := by decide +kernel
theorem dJ6_numberOfLeadingZeros_0f7a4_18 : decode cJ6_numberOfLeadingZeros_0f7a4 18 = .ok (.iload_n 0, 1) := by decide +kernel
theorem dJ6_numberOfLeadingZeros_0f7a4_19 : decode cJ6_numberOfLeadingZeros_0f7a4 19 = .ok (.ldc_w 264, 3) := by decide +kernel
theorem dJ6_numberOfLeadingZeros_0f7a4_22 : decode cJ6_numberOfLeadingZeros_0f7a4 22 = .ok (.if_icmp .lt 11, 3) := by decide +kernel
theorem dJ6_numberOfLeadingZeros_0f7a4_25 : decode cJ6_numberOfLeadingZeros_0f7a4 25 = .ok (.iinc 1 (-16), 3) := by decide +kernel
theorem dJ6_numberOfLeadingZeros_0f7a4_28 : decode cJ6_numberOfLeadingZeros_0f7a4 28 = .ok (.iload_n 0, 1) := by decide +kernel
theorem dJ6_numberOfLeadingZeros_0f7a4_29 : decode cJ6_numberOfLeadingZeros_0f7a4 29 = .ok (.bipush 16, 2) := by decide +kernel
theorem dJ6_numberOfLeadingZeros_0f7a4_31 : decode cJ6_numberOfLeadingZeros_0f7a4 31 = .ok (.iushr, 1) := by decide +kernel
theorem dJ6_numberOfLeadingZeros_0f7a4_32 : decode cJ6_numberOfLeadingZeros_0f7a4 32 = .ok (.istore_n 0, 1) := by decide +kernel
theorem dJ6_numberOfLeadingZeros_0f7a4_33 : decode cJ6_numberOfLeadingZeros_0f7a4 33 = .ok (.iload_n 0, 1) := by decide +kernel
theorem dJ6_numberOfLeadingZeros_0f7a4_34 : decode cJ6_numberOfLeadingZeros_0f7a4 34 = .ok (.sipush 256, 3) := by decide +kernel
theorem dJ6_numberOfLeadingZeros_0f7a4_37 : decode cJ6_numberOfLeadingZeros_0f7a4 37 = .ok (.if_icmp .lt 11, 3) := by decide +kernel
theorem dJ6_numberOfLeadingZeros_0f7a4_40 : decode cJ6_numberOfLeadingZeros_0f7a4 40 = .ok (.iinc 1 (-8), 3) := by decide +kernel
theorem dJ6_numberOfLeadingZeros_0f7a4_43 : decode cJ6_numberOfLeadingZeros_0f7a4 43 = .ok (.iload_n 0, 1) := by decide +kernel
theorem dJ6_numberOfLeadingZeros_0f7a4_44 : decode cJ6_numberOfLeadingZeros_0f7a4 44 = .ok (.bipush 8, 2) := by decide +kernel
theorem dJ6_numberOfLeadingZeros_0f7a4_46 : decode cJ6_numberOfLeadingZeros_0f7a4 46 = .ok (.iushr, 1) := by decide +kernel
theorem dJ6_numberOfLeadingZeros_0f7a4_47 : decode cJ6_numberOfLeadingZeros_0f7a4 47 = .ok (.istore_n 0, 1) := by decide +kernel
theorem dJ6_numberOfLeadingZeros_0f7a4_48 : decode cJ6_numberOfLeadingZeros_0f7a4 48 = .ok (.iload_n 0, 1) := by decide +kernel
theorem dJ6_numberOfLeadingZeros_0f7a4_49 : decode cJ6_numberOfLeadingZeros_0f7a4 49 = .ok (.bipush 16, 2) := by decide +kernel
theorem dJ6_numberOfLeadingZeros_0f7a4_51 : decode cJ6_numberOfLeadingZeros_0f7a4 51 = .ok (.if_icmp .lt 10, 3) := by decide +kernel
theorem dJ6_numberOfLeadingZeros_0f7a4_54 : decode cJ6_numberOfLeadingZeros_0f7a4 54 = .ok (.iinc 1 (-4), 3) := by decide +kernel
theorem dJ6_numberOfLeadingZeros_0f7a4_57 : decode cJ6_numberOfLeadingZeros_0f7a4 57 = .ok (.iload_n 0, 1) := by decide +kernel
theorem dJ6_numberOfLeadingZeros_0f7a4_58 : decode cJ6_numberOfLeadingZeros_0f7a4 58 = .ok (.iconst 4, 1) := by decide +kernel
theorem dJ6_numberOfLeadingZeros_0f7a4_59 : decode cJ6_numberOfLeadingZeros_0f7a4 59 = .ok (.iushr, 1) := by decide +kernel
theorem dJ6_numberOfLeadingZeros_0f7a4_60 : decode cJ6_numberOfLeadingZeros_0f7a4 60 = .ok (.istore_n 0, 1) := by decide +kernel
theorem dJ6_numberOfLeadingZeros_0f7a4_61 : decode cJ6_numberOfLeadingZeros_0f7a4 61 = .ok (.iload_n 0, 1) := by decide +kernel
theorem dJ6_numberOfLeadingZeros_0f7a4_62 : decode cJ6_numberOfLeadingZeros_0f7a4 62 = .ok (.iconst 4, 1) := by decide +kernel
theorem dJ6_numberOfLeadingZeros_0f7a4_63 : decode cJ6_numberOfLeadingZeros_0f7a4 63 = .ok (.if_icmp .lt 10, 3) := by decide +kernel
theorem dJ6_numberOfLeadingZeros_0f7a4_66 : decode cJ6_numberOfLeadingZeros_0f7a4 66 = .ok (.iinc 1 (-2), 3) := by decide +kernel
theorem dJ6_numberOfLeadingZeros_0f7a4_69 : decode cJ6_numberOfLeadingZeros_0f7a4 69 = .ok (.iload_n 0, 1) := by decide +kernel
theorem dJ6_numberOfLeadingZeros_0f7a4_70 : decode cJ6_numberOfLeadingZeros_0f7a4 70 = .ok (.iconst 2, 1) := by decide +kernel
theorem dJ6_numberOfLeadingZeros_0f7a4_71 : decode cJ6_numberOfLeadingZeros_0f7a4 71 = .ok (.iushr, 1) := by decide +kernel
theorem dJ6_numberOfLeadingZeros_0f7a4_72 : decode cJ6_numberOfLeadingZeros_0f7a4 72 = .ok (.istore_n 0, 1) := by decide +kernel
theorem dJ6_numberOfLeadingZeros_0f7a4_73 : decode cJ6_numberOfLeadingZeros_0f7a4 73 = .ok (.iload_n 1, 1) := by decide +kernel
theorem dJ6_numberOfLeadingZeros_0f7a4_74 : decode cJ6_numberOfLeadingZeros_0f7a4 74 = .ok (.iload_n 0, 1) := by decide +kernel
theorem dJ6_numberOfLeadingZeros_0f7a4_75 : decode cJ6_numberOfLeadingZeros_0f7a4 75 = .ok (.iconst 1, 1) := by decide +kernel
theorem dJ6_numberOfLeadingZeros_0f7a4_76 : decode cJ6_numberOfLeadingZeros_0f7a4 76 = .ok (.iushr, 1) := by decide +kernel
theorem dJ6_numberOfLeadingZeros_0f7a4_77 : decode cJ6_numberOfLeadingZeros_0f7a4 77 = .ok (.isub, 1) := by decide +kernel
theorem dJ6_numberOfLeadingZeros_0f7a4_78 : decode cJ6_numberOfLeadingZeros_0f7a4 78 = .ok (.ireturn, 1) := by decide +kernel
theorem dJ6_numberOfTrailingZeros_0f7a4_0 : decode cJ6_numberOfTrailingZeros_0f7a4 0 = .ok (.iload_n 0, 1) := by decide +kernel
theorem dJ6_numberOfTrailingZeros_0f7a4_1 : decode cJ6_numberOfTrailingZeros_0f7a4 1 = .ok (.iconst (-1), 1) := by decide +kernel
theorem dJ6_numberOfTrailingZeros_0f7a4_2 : decode cJ6_numberOfTrailingZeros_0f7a4 2 = .ok (.ixor, 1) := by decide +kernel
theorem dJ6_numberOfTrailingZeros_0f7a4_3 : decode cJ6_numberOfTrailingZeros_0f7a4 3 = .ok (.iload_n 0, 1) := by decide +kernel
theorem dJ6_numberOfTrailingZeros_0f7a4_4 : decode cJ6_numberOfTrailingZeros_0f7a4 4 = .ok (.iconst 1, 1) := by decide +kernel
theorem dJ6_numberOfTrailingZeros_0f7a4_5 : decode cJ6_numberOfTrailingZeros_0f7a4 5 = .ok (.isub, 1) := by decide +kernel
theorem dJ6_numberOfTrailingZeros_0f7a4_6 : decode cJ6_numberOfTrailingZeros_0f7a4 6 = .ok (.iand, 1) := by decide +kernel
theorem dJ6_numberOfTrailingZeros_0f7a4_7 : decode cJ6_numberOfTrailingZeros_0f7a4 7 = .ok (.istore_n 0, 1) := by decide +kernel
theorem dJ6_numberOfTrailingZeros_0f7a4_8 : decode cJ6_numberOfTrailingZeros_0f7a4 8 = .ok (.iload_n 0, 1) := by decide +kernel
theorem dJ6_numberOfTrailingZeros_0f7a4_9 : decode cJ6_numberOfTrailingZeros_0f7a4 9 = .ok (.ifCond .gt 8, 3) := by decide +kernel
theorem dJ6_numberOfTrailingZeros_0f7a4_12 : decode cJ6_numberOfTrailingZeros_0f7a4 12 = .ok (.iload_n 0, 1) := by decide +kernel
theorem dJ6_numberOfTrailingZeros_0f7a4_13 : decode cJ6_numberOfTrailingZeros_0f7a4 13 = .ok (.bipush 32, 2) := by decide +kernel
theorem dJ6_numberOfTrailingZeros_0f7a4_15 : decode cJ6_numberOfTrailingZeros_0f7a4 15 = .ok (.iand, 1) := by decide +kernel
theorem dJ6_numberOfTrailingZeros_0f7a4_16 : decode cJ6_numberOfTrailingZeros_0f7a4 16 = .ok (.ireturn, 1) := by decide +kernel
theorem dJ6_numberOfTrailingZeros_0f7a4_17 : decode cJ6_numberOfTrailingZeros_0f7a4 17 = .ok (.iconst 1, 1) := by decide +kernel
theorem dJ6_numberOfTrailingZeros_0f7a4_18 : decode cJ6_numberOfTrailingZeros_0f7a4 18 = .ok (.istore_n 1, 1) := by decide +kernel
theorem dJ6_numberOfTrailingZeros_0f7a4_19 : decode cJ6_numberOfTrailingZeros_0f7a4 19 = .ok (.iload_n 0, 1) := by decide +kernel
theorem dJ6_numberOfTrailingZeros_0f7a4_20 : decode cJ6_numberOfTrailingZeros_0f7a4 20 = .ok (.ldc_w 264, 3) := by decide +kernel
theorem dJ6_numberOfTrailingZeros_0f7a4_23 : decode cJ6_numberOfTrailingZeros_0f7a4 23 = .ok (.if_icmp .le 11, 3) := by decide +kernel
theorem dJ6_numberOfTrailingZeros_0f7a4_26 : decode cJ6_numberOfTrailingZeros_0f7a4 26 = .ok (.iinc 1 16, 3) := by decide +kernel
theorem dJ6_numberOfTrailingZeros_0f7a4_29 : decode cJ6_numberOfTrailingZeros_0f7a4 29 = .ok (.iload_n 0, 1) := by decide +kernel
theorem dJ6_numberOfTrailingZeros_0f7a4_30 : decode cJ6_numberOfTrailingZeros_0f7a4 30 = .ok (.bipush 16, 2) := by decide +kernel
theorem dJ6_numberOfTrailingZeros_0f7a4_32 : decode cJ6_numberOfTrailingZeros_0f7a4 32 = .ok (.iushr, 1) := by decide +kernel
theorem dJ6_numberOfTrailingZeros_0f7a4_33 : decode cJ6_numberOfTrailingZeros_0f7a4 33 = .ok (.istore_n 0, 1) := by decide +kernel
theorem dJ6_numberOfTrailingZeros_0f7a4_34 : decode cJ6_numberOfTrailingZeros_0f7a4 34 = .ok (.iload_n 0, 1) := by decide +kernel
theorem dJ6_numberOfTrailingZeros_0f7a4_35 : decode cJ6_numberOfTrailingZeros_0f7a4 35 = .ok (.sipush 256, 3) := by decide +kernel
theorem dJ6_numberOfTrailingZeros_0f7a4_38 : decode cJ6_numberOfTrailingZeros_0f7a4 38 = .ok (.if_icmp .le 11, 3) := by decide +kernel
theorem dJ6_numberOfTrailingZeros_0f7a4_41 : decode cJ6_numberOfTrailingZeros_0f7a4 41 = .ok (.iinc 1 8, 3) := by decide +kernel
theorem dJ6_numberOfTrailingZeros_0f7a4_44 : decode cJ6_numberOfTrailingZeros_0f7a4 44 = .ok (.iload_n 0, 1) := by decide +kernel
theorem dJ6_numberOfTrailingZeros_0f7a4_45 : decode cJ6_numberOfTrailingZeros_0f7a4 45 = .ok (.bipush 8, 2) := by decide +kernel
theorem dJ6_numberOfTrailingZeros_0f7a4_47 : decode cJ6_numberOfTrailingZeros_0f7a4 47 = .ok (.iushr, 1) := by decide +kernel
theorem dJ6_numberOfTrailingZeros_0f7a4_48 : decode cJ6_numberOfTrailingZeros_0f7a4 48 = .ok (.istore_n 0, 1) := by decide +kernel
theorem dJ6_numberOfTrailingZeros_0f7a4_49 : decode cJ6_numberOfTrailingZeros_0f7a4 49 = .ok (.iload_n 0, 1) := by decide +kernel
theorem dJ6_numberOfTrailingZeros_0f7a4_50 : decode cJ6_numberOfTrailingZeros_0f7a4 50 = .ok (.bipush 16, 2) := by decide +kernel
theorem dJ6_numberOfTrailingZeros_0f7a4_52 : decode cJ6_numberOfTrailingZeros_0f7a4 52 = .ok (.if_icmp .le 10, 3) := by decide +kernel
theorem dJ6_numberOfTrailingZeros_0f7a4_55 : decode cJ6_numberOfTrailingZeros_0f7a4 55 = .ok (.iinc 1 4, 3) := by decide +kernel
theorem dJ6_numberOfTrailingZeros_0f7a4_58 : decode cJ6_numberOfTrailingZeros_0f7a4 58 = .ok (.iload_n 0, 1) := by decide +kernel
theorem dJ6_numberOfTrailingZeros_0f7a4_59 : decode cJ6_numberOfTrailingZeros_0f7a4 59 = .ok (.iconst 4, 1) := by decide +kernel
theorem dJ6_numberOfTrailingZeros_0f7a4_60 : decode cJ6_numberOfTrailingZeros_0f7a4 60 = .ok (.iushr, 1) := by decide +kernel
theorem dJ6_numberOfTrailingZeros_0f7a4_61 : decode cJ6_numberOfTrailingZeros_0f7a4 61 = .ok (.istore_n 0, 1) := by decide +kernel
theorem dJ6_numberOfTrailingZeros_0f7a4_62 : decode cJ6_numberOfTrailingZeros_0f7a4 62 = .ok (.iload_n 0, 1) := by decide +kernel
theorem dJ6_numberOfTrailingZeros_0f7a4_63 : decode cJ6_numberOfTrailingZeros_0f7a4 63 = .ok (.iconst 4, 1) := by decide +kernel
theorem dJ6_numberOfTrailingZeros_0f7a4_64 : decode cJ6_numberOfTrailingZeros_0f7a4 64 = .ok (.if_icmp .le 10, 3) := by decide +kernel
theorem dJ6_numberOfTrailingZeros_0f7a4_67 : decode cJ6_numberOfTrailingZeros_0f7a4 67 = .ok (.iinc 1 2, 3) := by decide +kernel
theorem dJ6_numberOfTrailingZeros_0f7a4_70 : decode cJ6_numberOfTrailingZeros_0f7a4 70 = .ok (.iload_n 0, 1) := by decide +kernel
