theorem dX8_knownBySome_23 : decode cX8_knownBySome 23 = .ok (.iconst 0, 1) := by decide +kernel
theorem dX8_knownBySome_24 : decode cX8_knownBySome 24 = .ok (.iadd, 1) := by decide +kernel
theorem dX8_knownBySome_25 : decode cX8_knownBySome 25 = .ok (.iload_n 3, 1) := by decide +kernel
theorem dX8_knownBySome_26 : decode cX8_knownBySome 26 = .ok (.iadd, 1) := by decide +kernel
theorem dX8_knownBySome_27 : decode cX8_knownBySome 27 = .ok (.iaload, 1) := by decide +kernel
theorem dX8_knownBySome_28 : decode cX8_knownBySome 28 = .ok (.ior, 1) := by decide +kernel
theorem dX8_knownBySome_29 : decode cX8_knownBySome 29 = .ok (.istore_n 2, 1) := by decide +kernel
theorem dX8_knownBySome_30 : decode cX8_knownBySome 30 = .ok (.iinc 3 1, 3) := by decide +kernel
theorem dX8_knownBySome_33 : decode cX8_knownBySome 33 = .ok (.goto (-29), 3) := by decide +kernel
theorem dX8_knownBySome_36 : decode cX8_knownBySome 36 = .ok (.iload_n 2, 1) := by decide +kernel
theorem dX8_knownBySome_37 : decode cX8_knownBySome 37 = .ok (.ireturn, 1) := by decide +kernel
set_option maxRecDepth 20000 in
theorem ggX8_knownByLine_X8_copyClub : GoodIn wsX8_knownByLine wsX8_copyClub := goodIn_r _ [7, 1, 42, 43, 44, 45, 46, 47, 48, 49, 50, 51, 52, 53, 54, 55, 56, 57, 58, 59, 60, 61, 62, 63, 64, 65, 66, 67, 68, 69, 70, 71, 72, 73, 74, 75, 76, 77, 78] (by decide +kernel) (by decide +kernel)
set_option maxRecDepth 20000 in
theorem gX8_knownByLine_X8_copyClub : GoodIn wsX8_knownByLine (wsV RX8 180 RX8 yX8_copyClub wsX8_copyClub) := goodIn_app (goodIn_of _ (by decide +kernel)) ggX8_knownByLine_X8_copyClub
set_option maxRecDepth 20000 in
theorem ggX8_knownByLine_X8_passes : GoodIn wsX8_knownByLine wsX8_passes := goodIn_r _ [11, 1, 12, 13, 14, 15, 16, 17, 6, 18, 19, 20, 21, 22, 23, 24, 25, 26, 27, 28, 29, 30, 31, 32, 33, 34, 35, 36, 37, 42, 43, 44, 45, 46, 47, 48, 49, 50, 51, 52, 53, 54, 55, 56, 57, 58, 59, 60, 61, 62, 63, 64, 65, 66, 67, 68, 69, 70, 71, 72, 73, 74, 75, 76, 77, 78] (by decide +kernel) (by decide +kernel)
set_option maxRecDepth 20000 in
theorem gX8_knownByLine_X8_passes : GoodIn wsX8_knownByLine (wsV RX8 245 RX8 yX8_passes wsX8_passes) := goodIn_app (goodIn_of _ (by decide +kernel)) ggX8_knownByLine_X8_passes
set_option maxRecDepth 20000 in
theorem ggX8_knownByLine_X8_bits : GoodIn wsX8_knownByLine wsX8_bits := goodIn_r _ [21] (by decide +kernel) (by decide +kernel)
set_option maxRecDepth 20000 in
theorem gX8_knownByLine_X8_bits : GoodIn wsX8_knownByLine (va_wsS RX8 193 yX8_bits wsX8_bits) := goodIn_app (goodIn_of _ (by decide +kernel)) ggX8_knownByLine_X8_bits
set_option maxRecDepth 20000 in
theorem ggX8_knownByLine_X8_knownBySome : GoodIn wsX8_knownByLine wsX8_knownBySome := goodIn_r _ [41, 1, 42, 43, 44, 45, 46, 47, 48, 49, 50, 51, 52, 53, 54, 55, 56, 57, 58, 59, 60, 61, 62, 63, 64, 65, 66, 67, 68, 69, 70, 71, 72, 73, 74, 75, 76, 77, 78] (by decide +kernel) (by decide +kernel)
set_option maxRecDepth 20000 in
theorem gX8_knownByLine_X8_knownBySome : GoodIn wsX8_knownByLine (wsV RX8 269 RX8 yX8_knownBySome wsX8_knownBySome) := goodIn_app (goodIn_of _ (by decide +kernel)) ggX8_knownByLine_X8_knownBySome
theorem dX8_knownByLine_0 : decode cX8_knownByLine 0 = .ok (.aload_n 0, 1) := by decide +kernel
theorem dX8_knownByLine_1 : decode cX8_knownByLine 1 = .ok (.iconst 0, 1) := by decide +kernel
theorem dX8_knownByLine_2 : decode cX8_knownByLine 2 = .ok (.sipush 576, 3) := by decide +kernel
theorem dX8_knownByLine_5 : decode cX8_knownByLine 5 = .ok (.invokevirtual 180, 3) := by decide +kernel
theorem dX8_knownByLine_8 : decode cX8_knownByLine 8 = .ok (.iconst 0, 1) := by decide +kernel
theorem dX8_knownByLine_9 : decode cX8_knownByLine 9 = .ok (.istore_n 3, 1) := by decide +kernel
theorem dX8_knownByLine_10 : decode cX8_knownByLine 10 = .ok (.iload_n 3, 1) := by decide +kernel
theorem dX8_knownByLine_11 : decode cX8_knownByLine 11 = .ok (.aload_n 0, 1) := by decide +kernel
theorem dX8_knownByLine_12 : decode cX8_knownByLine 12 = .ok (.getfield 7, 3) := by decide +kernel
theorem dX8_knownByLine_15 : decode cX8_knownByLine 15 = .ok (.bipush 17, 2) := by decide +kernel
theorem dX8_knownByLine_17 : decode cX8_knownByLine 17 = .ok (.iaload, 1) := by decide +kernel
theorem dX8_knownByLine_18 : decode cX8_knownByLine 18 = .ok (.if_icmp .ge 50, 3) := by decide +kernel
theorem dX8_knownByLine_21 : decode cX8_knownByLine 21 = .ok (.aload_n 0, 1) := by decide +kernel
theorem dX8_knownByLine_22 : decode cX8_knownByLine 22 = .ok (.getfield 7, 3) := by decide +kernel
theorem dX8_knownByLine_25 : decode cX8_knownByLine 25 = .ok (.sipush 580, 3) := by decide +kernel
theorem dX8_knownByLine_28 : decode cX8_knownByLine 28 = .ok (.iload_n 3, 1) := by decide +kernel
theorem dX8_knownByLine_29 : decode cX8_knownByLine 29 = .ok (.iadd, 1) := by decide +kernel
theorem dX8_knownByLine_30 : decode cX8_knownByLine 30 = .ok (.aload_n 0, 1) := by decide +kernel
theorem dX8_knownByLine_31 : decode cX8_knownByLine 31 = .ok (.getfield 7, 3) := by decide +kernel
theorem dX8_knownByLine_34 : decode cX8_knownByLine 34 = .ok (.iconst 4, 1) := by decide +kernel
theorem dX8_knownByLine_35 : decode cX8_knownByLine 35 = .ok (.iload_n 3, 1) := by decide +kernel
theorem dX8_knownByLine_36 : decode cX8_knownByLine 36 = .ok (.iadd, 1) := by decide +kernel
theorem dX8_knownByLine_37 : decode cX8_knownByLine 37 = .ok (.iaload, 1) := by decide +kernel
theorem dX8_knownByLine_38 : decode cX8_knownByLine 38 = .ok (.iconst (-1), 1) := by decide +kernel
theorem dX8_knownByLine_39 : decode cX8_knownByLine 39 = .ok (.if_icmp .ne 14, 3) := by decide +kernel
theorem dX8_knownByLine_42 : decode cX8_knownByLine 42 = .ok (.aload_n 0, 1) := by decide +kernel
theorem dX8_knownByLine_43 : decode cX8_knownByLine 43 = .ok (.getfield 72, 3) := by decide +kernel
theorem dX8_knownByLine_46 : decode cX8_knownByLine 46 = .ok (.iload_n 3, 1) := by decide +kernel
theorem dX8_knownByLine_47 : decode cX8_knownByLine 47 = .ok (.iaload, 1) := by decide +kernel
theorem dX8_knownByLine_48 : decode cX8_knownByLine 48 = .ok (.iconst 1, 1) := by decide +kernel
theorem dX8_knownByLine_49 : decode cX8_knownByLine 49 = .ok (.isub, 1) := by decide +kernel
theorem dX8_knownByLine_50 : decode cX8_knownByLine 50 = .ok (.goto 11, 3) := by decide +kernel
theorem dX8_knownByLine_53 : decode cX8_knownByLine 53 = .ok (.aload_n 0, 1) := by decide +kernel
theorem dX8_knownByLine_54 : decode cX8_knownByLine 54 = .ok (.getfield 7, 3) := by decide +kernel
theorem dX8_knownByLine_57 : decode cX8_knownByLine 57 = .ok (.iconst 4, 1) := by decide +kernel
theorem dX8_knownByLine_58 : decode cX8_knownByLine 58 = .ok (.iload_n 3, 1) := by decide +kernel
theorem dX8_knownByLine_59 : decode cX8_knownByLine 59 = .ok (.iadd, 1) := by decide +kernel
theorem dX8_knownByLine_60 : decode cX8_knownByLine 60 = .ok (.iaload, 1) := by decide +kernel
theorem dX8_knownByLine_61 : decode cX8_knownByLine 61 = .ok (.iastore, 1) := by decide +kernel
theorem dX8_knownByLine_62 : decode cX8_knownByLine 62 = .ok (.iinc 3 1, 3) := by decide +kernel
theorem dX8_knownByLine_65 : decode cX8_knownByLine 65 = .ok (.goto (-55), 3) := by decide +kernel
theorem dX8_knownByLine_68 : decode cX8_knownByLine 68 = .ok (.iconst 0, 1) := by decide +kernel
theorem dX8_knownByLine_69 : decode cX8_knownByLine 69 = .ok (.istore_n 3, 1) := by decide +kernel
theorem dX8_knownByLine_70 : decode cX8_knownByLine 70 = .ok (.iload_n 3, 1) := by decide +kernel
theorem dX8_knownByLine_71 : decode cX8_knownByLine 71 = .ok (.iload_n 2, 1) := by decide +kernel
theorem dX8_knownByLine_72 : decode cX8_knownByLine 72 = .ok (.if_icmp .ge 16, 3) := by decide +kernel
theorem dX8_knownByLine_75 : decode cX8_knownByLine 75 = .ok (.aload_n 0, 1) := by decide +kernel
theorem dX8_knownByLine_76 : decode cX8_knownByLine 76 = .ok (.sipush 576, 3) := by decide +kernel
theorem dX8_knownByLine_79 : decode cX8_knownByLine 79 = .ok (.invokevirtual 245, 3) := by decide +kernel
theorem dX8_knownByLine_82 : decode cX8_knownByLine 82 = .ok (.iinc 3 1, 3) := by decide +kernel
theorem dX8_knownByLine_85 : decode cX8_knownByLine 85 = .ok (.goto (-15), 3) := by decide +kernel
theorem dX8_knownByLine_88 : decode cX8_knownByLine 88 = .ok (.iconst 1, 1) := by decide +kernel
theorem dX8_knownByLine_89 : decode cX8_knownByLine 89 = .ok (.istore_n 3, 1) := by decide +kernel
theorem dX8_knownByLine_90 : decode cX8_knownByLine 90 = .ok (.iconst 0, 1) := by decide +kernel
theorem dX8_knownByLine_91 : decode cX8_knownByLine 91 = .ok (.istore 4, 2) := by decide +kernel
theorem dX8_knownByLine_93 : decode cX8_knownByLine 93 = .ok (.iload 4, 2) := by decide +kernel
theorem dX8_knownByLine_95 : decode cX8_knownByLine 95 = .ok (.aload_n 0, 1) := by decide +kernel
theorem dX8_knownByLine_96 : decode cX8_knownByLine 96 = .ok (.getfield 7, 3) := by decide +kernel
theorem dX8_knownByLine_99 : decode cX8_knownByLine 99 = .ok (.bipush 16, 2) := by decide +kernel
theorem dX8_knownByLine_101 : decode cX8_knownByLine 101 = .ok (.iaload, 1) := by decide +kernel
theorem dX8_knownByLine_102 : decode cX8_knownByLine 102 = .ok (.if_icmp .ge 37, 3) := by decide +kernel
theorem dX8_knownByLine_105 : decode cX8_knownByLine 105 = .ok (.iload_n 3, 1) := by decide +kernel
theorem dX8_knownByLine_106 : decode cX8_knownByLine 106 = .ok (.ifCond .eq 25, 3) := by decide +kernel
theorem dX8_knownByLine_109 : decode cX8_knownByLine 109 = .ok (.aload_n 0, 1) := by decide +kernel
theorem dX8_knownByLine_110 : decode cX8_knownByLine 110 = .ok (.getfield 7, 3) := by decide +kernel
theorem dX8_knownByLine_113 : decode cX8_knownByLine 113 = .ok (.sipush 576, 3) := by decide +kernel
theorem dX8_knownByLine_116 : decode cX8_knownByLine 116 = .ok (.iload 4, 2) := by decide +kernel
theorem dX8_knownByLine_118 : decode cX8_knownByLine 118 = .ok (.iadd, 1) := by decide +kernel
theorem dX8_knownByLine_119 : decode cX8_knownByLine 119 = .ok (.iaload, 1) := by decide +kernel
theorem dX8_knownByLine_120 : decode cX8_knownByLine 120 = .ok (.invokestatic 193, 3) := by decide +kernel
theorem dX8_knownByLine_123 : decode cX8_knownByLine 123 = .ok (.iload_n 1, 1) := by decide +kernel
theorem dX8_knownByLine_124 : decode cX8_knownByLine 124 = .ok (.if_icmp .gt 7, 3) := by decide +kernel
theorem dX8_knownByLine_127 : decode cX8_knownByLine 127 = .ok (.iconst 1, 1) := by decide +kernel
theorem dX8_knownByLine_128 : decode cX8_knownByLine 128 = .ok (.goto 4, 3) := by decide +kernel
theorem dX8_knownByLine_131 : decode cX8_knownByLine 131 = .ok (.iconst 0, 1) := by decide +kernel
theorem dX8_knownByLine_132 : decode cX8_knownByLine 132 = .ok (.istore_n 3, 1) := by decide +kernel
theorem dX8_knownByLine_133 : decode cX8_knownByLine 133 = .ok (.iinc 4 1, 3) := by decide +kernel
theorem dX8_knownByLine_136 : decode cX8_knownByLine 136 = .ok (.goto (-43), 3) := by decide +kernel
theorem dX8_knownByLine_139 : decode cX8_knownByLine 139 = .ok (.iload_n 3, 1) := by decide +kernel
theorem dX8_knownByLine_140 : decode cX8_knownByLine 140 = .ok (.ifCond .eq 16, 3) := by decide +kernel
theorem dX8_knownByLine_143 : decode cX8_knownByLine 143 = .ok (.aload_n 0, 1) := by decide +kernel
theorem dX8_knownByLine_144 : decode cX8_knownByLine 144 = .ok (.sipush 576, 3) := by decide +kernel
theorem dX8_knownByLine_147 : decode cX8_knownByLine 147 = .ok (.invokevirtual 269, 3) := by decide +kernel
theorem dX8_knownByLine_150 : decode cX8_knownByLine 150 = .ok (.invokestatic 193, 3) := by decide +kernel
theorem dX8_knownByLine_153 : decode cX8_knownByLine 153 = .ok (.goto 4, 3) := by decide +kernel
theorem dX8_knownByLine_156 : decode cX8_knownByLine 156 = .ok (.iconst (-1), 1) := by decide +kernel
theorem dX8_knownByLine_157 : decode cX8_knownByLine 157 = .ok (.ireturn, 1) := by decide +kernel
theorem dX8_nextLine_0 : decode cX8_nextLine 0 = .ok (.aload_n 0, 1) := by decide +kernel
theorem dX8_nextLine_1 : decode cX8_nextLine 1 = .ok (.getfield 7, 3) := by decide +kernel
theorem dX8_nextLine_4 : decode cX8_nextLine 4 = .ok (.bipush 17, 2) := by decide +kernel
theorem dX8_nextLine_6 : decode cX8_nextLine 6 = .ok (.iaload, 1) := by decide +kernel
theorem dX8_nextLine_7 : decode cX8_nextLine 7 = .ok (.iconst 1, 1) := by decide +kernel
theorem dX8_nextLine_8 : decode cX8_nextLine 8 = .ok (.isub, 1) := by decide +kernel
theorem dX8_nextLine_9 : decode cX8_nextLine 9 = .ok (.istore_n 1, 1) := by decide +kernel
theorem dX8_nextLine_10 : decode cX8_nextLine 10 = .ok (.iload_n 1, 1) := by decide +kernel
theorem dX8_nextLine_11 : decode cX8_nextLine 11 = .ok (.ifCond .lt 44, 3) := by decide +kernel
theorem dX8_nextLine_14 : decode cX8_nextLine 14 = .ok (.aload_n 0, 1) := by decide +kernel
theorem dX8_nextLine_15 : decode cX8_nextLine 15 = .ok (.getfield 7, 3) := by decide +kernel
theorem dX8_nextLine_18 : decode cX8_nextLine 18 = .ok (.iconst 4, 1) := by decide +kernel
theorem dX8_nextLine_19 : decode cX8_nextLine 19 = .ok (.iload_n 1, 1) := by decide +kernel
theorem dX8_nextLine_20 : decode cX8_nextLine 20 = .ok (.iadd, 1) := by decide +kernel
theorem dX8_nextLine_21 : decode cX8_nextLine 21 = .ok (.iaload, 1) := by decide +kernel
theorem dX8_nextLine_22 : decode cX8_nextLine 22 = .ok (.iconst (-1), 1) := by decide +kernel
theorem dX8_nextLine_23 : decode cX8_nextLine 23 = .ok (.if_icmp .ne 19, 3) := by decide +kernel
theorem dX8_nextLine_26 : decode cX8_nextLine 26 = .ok (.aload_n 0, 1) := by decide +kernel
theorem dX8_nextLine_27 : decode cX8_nextLine 27 = .ok (.getfield 72, 3) := by decide +kernel
theorem dX8_nextLine_30 : decode cX8_nextLine 30 = .ok (.iload_n 1, 1) := by decide +kernel
theorem dX8_nextLine_31 : decode cX8_nextLine 31 = .ok (.iaload, 1) := by decide +kernel
theorem dX8_nextLine_32 : decode cX8_nextLine 32 = .ok (.aload_n 0, 1) := by decide +kernel
theorem dX8_nextLine_33 : decode cX8_nextLine 33 = .ok (.getfield 7, 3) := by decide +kernel
theorem dX8_nextLine_36 : decode cX8_nextLine 36 = .ok (.bipush 16, 2) := by decide +kernel
theorem dX8_nextLine_38 : decode cX8_nextLine 38 = .ok (.iaload, 1) := by decide +kernel
theorem dX8_nextLine_39 : decode cX8_nextLine 39 = .ok (.if_icmp .ne 16, 3) := by decide +kernel
theorem dX8_nextLine_42 : decode cX8_nextLine 42 = .ok (.aload_n 0, 1) := by decide +kernel
theorem dX8_nextLine_43 : decode cX8_nextLine 43 = .ok (.getfield 72, 3) := by decide +kernel
theorem dX8_nextLine_46 : decode cX8_nextLine 46 = .ok (.iload_n 1, 1) := by decide +kernel
theorem dX8_nextLine_47 : decode cX8_nextLine 47 = .ok (.iconst 0, 1) := by decide +kernel
theorem dX8_nextLine_48 : decode cX8_nextLine 48 = .ok (.iastore, 1) := by decide +kernel
theorem dX8_nextLine_49 : decode cX8_nextLine 49 = .ok (.iinc 1 (-1), 3) := by decide +kernel
theorem dX8_nextLine_52 : decode cX8_nextLine 52 = .ok (.goto (-42), 3) := by decide +kernel
theorem dX8_nextLine_55 : decode cX8_nextLine 55 = .ok (.iload_n 1, 1) := by decide +kernel
theorem dX8_nextLine_56 : decode cX8_nextLine 56 = .ok (.ifCond .lt 13, 3) := by decide +kernel
theorem dX8_nextLine_59 : decode cX8_nextLine 59 = .ok (.aload_n 0, 1) := by decide +kernel
theorem dX8_nextLine_60 : decode cX8_nextLine 60 = .ok (.getfield 72, 3) := by decide +kernel
theorem dX8_nextLine_63 : decode cX8_nextLine 63 = .ok (.iload_n 1, 1) := by decide +kernel
theorem dX8_nextLine_64 : decode cX8_nextLine 64 = .ok (.dup2, 1) := by decide +kernel
theorem dX8_nextLine_65 : decode cX8_nextLine 65 = .ok (.iaload, 1) := by decide +kernel
theorem dX8_nextLine_66 : decode cX8_nextLine 66 = .ok (.iconst 1, 1) := by decide +kernel
theorem dX8_nextLine_67 : decode cX8_nextLine 67 = .ok (.iadd, 1) := by decide +kernel
theorem dX8_nextLine_68 : decode cX8_nextLine 68 = .ok (.iastore, 1) := by decide +kernel
theorem dX8_nextLine_69 : decode cX8_nextLine 69 = .ok (.iload_n 1, 1) := by decide +kernel
theorem dX8_nextLine_70 : decode cX8_nextLine 70 = .ok (.ifCond .lt 7, 3) := by decide +kernel
theorem dX8_nextLine_73 : decode cX8_nextLine 73 = .ok (.iconst 1, 1) := by decide +kernel
theorem dX8_nextLine_74 : decode cX8_nextLine 74 = .ok (.goto 4, 3) := by decide +kernel
theorem dX8_nextLine_77 : decode cX8_nextLine 77 = .ok (.iconst 0, 1) := by decide +kernel
theorem dX8_nextLine_78 : decode cX8_nextLine 78 = .ok (.ireturn, 1) := by decide +kernel
set_option maxRecDepth 20000 in
theorem ggX8_most_X8_isLeech : GoodIn wsX8_most wsX8_isLeech := goodIn_r _ [9, 10, 11, 12, 8, 13, 60, 61, 62, 63, 64, 65, 66, 67, 68, 69, 70, 71, 72, 73, 74, 75, 76, 77, 78, 79, 80, 81, 82, 83, 84, 85, 86, 87, 88, 89, 90, 91, 92, 93, 94, 95, 96] (by decide +kernel) (by decide +kernel)
set_option maxRecDepth 20000 in
theorem gX8_most_X8_isLeech : GoodIn wsX8_most (wsV RX8 209 RX8 yX8_isLeech wsX8_isLeech) := goodIn_app (goodIn_of _ (by decide +kernel)) ggX8_most_X8_isLeech
set_option maxRecDepth 20000 in
theorem ggX8_most_X8_in : GoodIn wsX8_most wsX8_in := goodIn_r _ [13] (by decide +kernel) (by decide +kernel)
set_option maxRecDepth 20000 in
theorem gX8_most_X8_in : GoodIn wsX8_most (va_wsS RX8 86 yX8_in wsX8_in) := goodIn_app (goodIn_of _ (by decide +kernel)) ggX8_most_X8_in
set_option maxRecDepth 20000 in
theorem ggX8_most_X8_knownByLine : GoodIn wsX8_most wsX8_knownByLine := goodIn_r _ [17, 10, 3, 18, 19, 20, 8, 21, 22, 23, 24, 25, 26, 27, 28, 29, 30, 31, 32, 33, 34, 35, 36, 37, 38, 39, 40, 41, 42, 43, 44, 45, 46, 47, 48, 49, 50, 51, 52, 53, 54, 55, 60, 61, 62, 63, 64, 65, 66, 67, 68, 69, 70, 71, 72, 73, 74, 75, 76, 77, 78, 79, 80, 81, 82, 83, 84, 85, 86, 87, 88, 89, 90, 91, 92, 93, 94, 95, 96] (by decide +kernel) (by decide +kernel)
set_option maxRecDepth 20000 in
theorem gX8_most_X8_knownByLine : GoodIn wsX8_most (wsV RX8 274 RX8 yX8_knownByLine wsX8_knownByLine) := goodIn_app (goodIn_of _ (by decide +kernel)) ggX8_most_X8_knownByLine
set_option maxRecDepth 20000 in
theorem ggX8_most_X8_nextLine : GoodIn wsX8_most wsX8_nextLine := goodIn_r _ [59, 10, 3, 60, 61, 62, 63, 64, 65, 66, 67, 68, 69, 70, 71, 72, 73, 74, 75, 76, 77, 78, 79, 80, 81, 82, 83, 84, 85, 86, 87, 88, 89, 90, 91, 92, 93, 94, 95, 96] (by decide +kernel) (by decide +kernel)
set_option maxRecDepth 20000 in
theorem gX8_most_X8_nextLine : GoodIn wsX8_most (wsV RX8 277 RX8 yX8_nextLine wsX8_nextLine) := goodIn_app (goodIn_of _ (by decide +kernel)) ggX8_most_X8_nextLine
theorem dX8_most_0 : decode cX8_most 0 = .ok (.iload_n 3, 1) := by decide +kernel
theorem dX8_most_1 : decode cX8_most 1 = .ok (.iconst (-1), 1) := by decide +kernel
theorem dX8_most_2 : decode cX8_most 2 = .ok (.if_icmp .eq 14, 3) := by decide +kernel
theorem dX8_most_5 : decode cX8_most 5 = .ok (.aload_n 0, 1) := by decide +kernel
theorem dX8_most_6 : decode cX8_most 6 = .ok (.iload_n 3, 1) := by decide +kernel
theorem dX8_most_7 : decode cX8_most 7 = .ok (.invokevirtual 209, 3) := by decide +kernel
theorem dX8_most_10 : decode cX8_most 10 = .ok (.ifCond .ne 6, 3) := by decide +kernel
theorem dX8_most_13 : decode cX8_most 13 = .ok (.bipush (-2), 2) := by decide +kernel
theorem dX8_most_15 : decode cX8_most 15 = .ok (.ireturn, 1) := by decide +kernel
theorem dX8_most_16 : decode cX8_most 16 = .ok (.iload_n 1, 1) := by decide +kernel
theorem dX8_most_17 : decode cX8_most 17 = .ok (.i2l, 1) := by decide +kernel
theorem dX8_most_18 : decode cX8_most 18 = .ok (.lconst 0, 1) := by decide +kernel
theorem dX8_most_19 : decode cX8_most 19 = .ok (.ldc2_w 240, 3) := by decide +kernel
theorem dX8_most_22 : decode cX8_most 22 = .ok (.invokestatic 86, 3) := by decide +kernel
theorem dX8_most_25 : decode cX8_most 25 = .ok (.ifCond .eq 15, 3) := by decide +kernel
theorem dX8_most_28 : decode cX8_most 28 = .ok (.iload_n 2, 1) := by decide +kernel
theorem dX8_most_29 : decode cX8_most 29 = .ok (.i2l, 1) := by decide +kernel
theorem dX8_most_30 : decode cX8_most 30 = .ok (.lconst 0, 1) := by decide +kernel
theorem dX8_most_31 : decode cX8_most 31 = .ok (.ldc2_w 272, 3) := by decide +kernel
theorem dX8_most_34 : decode cX8_most 34 = .ok (.invokestatic 86, 3) := by decide +kernel
theorem dX8_most_37 : decode cX8_most 37 = .ok (.ifCond .ne 6, 3) := by decide +kernel
theorem dX8_most_40 : decode cX8_most 40 = .ok (.bipush (-3), 2) := by decide +kernel
theorem dX8_most_42 : decode cX8_most 42 = .ok (.ireturn, 1) := by decide +kernel
theorem dX8_most_43 : decode cX8_most 43 = .ok (.iconst 0, 1) := by decide +kernel
theorem dX8_most_44 : decode cX8_most 44 = .ok (.istore 4, 2) := by decide +kernel
theorem dX8_most_46 : decode cX8_most 46 = .ok (.iload 4, 2) := by decide +kernel
theorem dX8_most_48 : decode cX8_most 48 = .ok (.iconst 5, 1) := by decide +kernel
theorem dX8_most_49 : decode cX8_most 49 = .ok (.if_icmp .ge 17, 3) := by decide +kernel
theorem dX8_most_52 : decode cX8_most 52 = .ok (.aload_n 0, 1) := by decide +kernel
theorem dX8_most_53 : decode cX8_most 53 = .ok (.getfield 72, 3) := by decide +kernel
theorem dX8_most_56 : decode cX8_most 56 = .ok (.iload 4, 2) := by decide +kernel
theorem dX8_most_58 : decode cX8_most 58 = .ok (.iconst 0, 1) := by decide +kernel
theorem dX8_most_59 : decode cX8_most 59 = .ok (.iastore, 1) := by decide +kernel
theorem dX8_most_60 : decode cX8_most 60 = .ok (.iinc 4 1, 3) := by decide +kernel
theorem dX8_most_63 : decode cX8_most 63 = .ok (.goto (-17), 3) := by decide +kernel
theorem dX8_most_66 : decode cX8_most 66 = .ok (.iconst (-1), 1) := by decide +kernel
theorem dX8_most_67 : decode cX8_most 67 = .ok (.istore 4, 2) := by decide +kernel
theorem dX8_most_69 : decode cX8_most 69 = .ok (.iconst 1, 1) := by decide +kernel
theorem dX8_most_70 : decode cX8_most 70 = .ok (.istore 5, 2) := by decide +kernel
theorem dX8_most_72 : decode cX8_most 72 = .ok (.iload 5, 2) := by decide +kernel
theorem dX8_most_74 : decode cX8_most 74 = .ok (.ifCond .eq 60, 3) := by decide +kernel
theorem dX8_most_77 : decode cX8_most 77 = .ok (.aload_n 0, 1) := by decide +kernel
theorem dX8_most_78 : decode cX8_most 78 = .ok (.iload_n 1, 1) := by decide +kernel
theorem dX8_most_79 : decode cX8_most 79 = .ok (.iload_n 2, 1) := by decide +kernel
theorem dX8_most_80 : decode cX8_most 80 = .ok (.invokevirtual 274, 3) := by decide +kernel
theorem dX8_most_83 : decode cX8_most 83 = .ok (.istore 6, 2) := by decide +kernel
theorem dX8_most_85 : decode cX8_most 85 = .ok (.iload 6, 2) := by decide +kernel
theorem dX8_most_87 : decode cX8_most 87 = .ok (.iload 4, 2) := by decide +kernel
theorem dX8_most_89 : decode cX8_most 89 = .ok (.if_icmp .le 36, 3) := by decide +kernel
theorem dX8_most_92 : decode cX8_most 92 = .ok (.iload 6, 2) := by decide +kernel
theorem dX8_most_94 : decode cX8_most 94 = .ok (.istore 4, 2) := by decide +kernel
theorem dX8_most_96 : decode cX8_most 96 = .ok (.iconst 0, 1) := by decide +kernel
theorem dX8_most_97 : decode cX8_most 97 = .ok (.istore 7, 2) := by decide +kernel
theorem dX8_most_99 : decode cX8_most 99 = .ok (.iload 7, 2) := by decide +kernel
theorem dX8_most_101 : decode cX8_most 101 = .ok (.iconst 5, 1) := by decide +kernel
theorem dX8_most_102 : decode cX8_most 102 = .ok (.if_icmp .ge 23, 3) := by decide +kernel
theorem dX8_most_105 : decode cX8_most 105 = .ok (.aload_n 0, 1) := by decide +kernel
theorem dX8_most_106 : decode cX8_most 106 = .ok (.getfield 75, 3) := by decide +kernel
theorem dX8_most_109 : decode cX8_most 109 = .ok (.iload 7, 2) := by decide +kernel
theorem dX8_most_111 : decode cX8_most 111 = .ok (.aload_n 0, 1) := by decide +kernel
theorem dX8_most_112 : decode cX8_most 112 = .ok (.getfield 72, 3) := by decide +kernel
theorem dX8_most_115 : decode cX8_most 115 = .ok (.iload 7, 2) := by decide +kernel
theorem dX8_most_117 : decode cX8_most 117 = .ok (.iaload, 1) := by decide +kernel
theorem dX8_most_118 : decode cX8_most 118 = .ok (.iastore, 1) := by decide +kernel
theorem dX8_most_119 : decode cX8_most 119 = .ok (.iinc 7 1, 3) := by decide +kernel
theorem dX8_most_122 : decode cX8_most 122 = .ok (.goto (-23), 3) := by decide +kernel
theorem dX8_most_125 : decode cX8_most 125 = .ok (.aload_n 0, 1) := by decide +kernel
theorem dX8_most_126 : decode cX8_most 126 = .ok (.invokevirtual 277, 3) := by decide +kernel
theorem dX8_most_129 : decode cX8_most 129 = .ok (.istore 5, 2) := by decide +kernel
theorem dX8_most_131 : decode cX8_most 131 = .ok (.goto (-59), 3) := by decide +kernel
theorem dX8_most_134 : decode cX8_most 134 = .ok (.iload 4, 2) := by decide +kernel
theorem dX8_most_136 : decode cX8_most 136 = .ok (.ifCond .ge 7, 3) := by decide +kernel
theorem dX8_most_139 : decode cX8_most 139 = .ok (.iconst (-1), 1) := by decide +kernel
theorem dX8_most_140 : decode cX8_most 140 = .ok (.goto 21, 3) := by decide +kernel
theorem dX8_most_143 : decode cX8_most 143 = .ok (.iload_n 3, 1) := by decide +kernel
theorem dX8_most_144 : decode cX8_most 144 = .ok (.iconst (-1), 1) := by decide +kernel
theorem dX8_most_145 : decode cX8_most 145 = .ok (.if_icmp .ne 8, 3) := by decide +kernel
theorem dX8_most_148 : decode cX8_most 148 = .ok (.iload 4, 2) := by decide +kernel
theorem dX8_most_150 : decode cX8_most 150 = .ok (.goto 11, 3) := by decide +kernel
theorem dX8_most_153 : decode cX8_most 153 = .ok (.aload_n 0, 1) := by decide +kernel
theorem dX8_most_154 : decode cX8_most 154 = .ok (.getfield 75, 3) := by decide +kernel
theorem dX8_most_157 : decode cX8_most 157 = .ok (.iload_n 3, 1) := by decide +kernel
theorem dX8_most_158 : decode cX8_most 158 = .ok (.iaload, 1) := by decide +kernel
theorem dX8_most_159 : decode cX8_most 159 = .ok (.iconst 1, 1) := by decide +kernel
theorem dX8_most_160 : decode cX8_most 160 = .ok (.isub, 1) := by decide +kernel
theorem dX8_most_161 : decode cX8_most 161 = .ok (.ireturn, 1) := by decide +kernel
set_option maxRecDepth 20000 in
theorem ggX8_sound_X8_isFact : GoodIn wsX8_sound wsX8_isFact := goodIn_r _ [7, 2, 8, 9, 6, 10, 17, 18, 19, 20, 21, 22, 23, 24, 25, 26, 27, 28, 29, 30, 31, 32, 33, 34, 35, 36, 37, 38, 39, 40, 41, 42, 43, 44, 45, 46, 47, 48, 49, 50, 51, 52, 53] (by decide +kernel) (by decide +kernel)
set_option maxRecDepth 20000 in
theorem gX8_sound_X8_isFact : GoodIn wsX8_sound (wsV RX8 190 RX8 yX8_isFact wsX8_isFact) := goodIn_app (goodIn_of _ (by decide +kernel)) ggX8_sound_X8_isFact
set_option maxRecDepth 20000 in
theorem ggX8_sound_X8_in : GoodIn wsX8_sound wsX8_in := goodIn_r _ [10] (by decide +kernel) (by decide +kernel)
set_option maxRecDepth 20000 in
theorem gX8_sound_X8_in : GoodIn wsX8_sound (va_wsS RX8 86 yX8_in wsX8_in) := goodIn_app (goodIn_of _ (by decide +kernel)) ggX8_sound_X8_in
set_option maxRecDepth 20000 in
theorem ggX8_sound_X8_bits : GoodIn wsX8_sound wsX8_bits := goodIn_r _ [13] (by decide +kernel) (by decide +kernel)
set_option maxRecDepth 20000 in
theorem gX8_sound_X8_bits : GoodIn wsX8_sound (va_wsS RX8 193 yX8_bits wsX8_bits) := goodIn_app (goodIn_of _ (by decide +kernel)) ggX8_sound_X8_bits
set_option maxRecDepth 20000 in
theorem ggX8_sound_X8_partOf : GoodIn wsX8_sound wsX8_partOf := goodIn_r _ [16] (by decide +kernel) (by decide +kernel)
set_option maxRecDepth 20000 in
theorem gX8_sound_X8_partOf : GoodIn wsX8_sound (va_wsS RX8 196 yX8_partOf wsX8_partOf) := goodIn_app (goodIn_of _ (by decide +kernel)) ggX8_sound_X8_partOf
theorem dX8_sound_0 : decode cX8_sound 0 = .ok (.aload_n 0, 1) := by decide +kernel
theorem dX8_sound_1 : decode cX8_sound 1 = .ok (.iload_n 1, 1) := by decide +kernel
theorem dX8_sound_2 : decode cX8_sound 2 = .ok (.invokevirtual 190, 3) := by decide +kernel
theorem dX8_sound_5 : decode cX8_sound 5 = .ok (.ifCond .ne 6, 3) := by decide +kernel
theorem dX8_sound_8 : decode cX8_sound 8 = .ok (.bipush (-2), 2) := by decide +kernel
theorem dX8_sound_10 : decode cX8_sound 10 = .ok (.ireturn, 1) := by decide +kernel
theorem dX8_sound_11 : decode cX8_sound 11 = .ok (.iload_n 2, 1) := by decide +kernel
theorem dX8_sound_12 : decode cX8_sound 12 = .ok (.i2l, 1) := by decide +kernel
theorem dX8_sound_13 : decode cX8_sound 13 = .ok (.lconst 0, 1) := by decide +kernel
theorem dX8_sound_14 : decode cX8_sound 14 = .ok (.ldc2_w 212, 3) := by decide +kernel
theorem dX8_sound_17 : decode cX8_sound 17 = .ok (.invokestatic 86, 3) := by decide +kernel
theorem dX8_sound_20 : decode cX8_sound 20 = .ok (.ifCond .eq 13, 3) := by decide +kernel
theorem dX8_sound_23 : decode cX8_sound 23 = .ok (.iload_n 3, 1) := by decide +kernel
theorem dX8_sound_24 : decode cX8_sound 24 = .ok (.i2l, 1) := by decide +kernel
theorem dX8_sound_25 : decode cX8_sound 25 = .ok (.lconst 0, 1) := by decide +kernel
theorem dX8_sound_26 : decode cX8_sound 26 = .ok (.lconst 1, 1) := by decide +kernel
theorem dX8_sound_27 : decode cX8_sound 27 = .ok (.invokestatic 86, 3) := by decide +kernel
theorem dX8_sound_30 : decode cX8_sound 30 = .ok (.ifCond .ne 6, 3) := by decide +kernel
theorem dX8_sound_33 : decode cX8_sound 33 = .ok (.bipush (-3), 2) := by decide +kernel
theorem dX8_sound_35 : decode cX8_sound 35 = .ok (.ireturn, 1) := by decide +kernel
theorem dX8_sound_36 : decode cX8_sound 36 = .ok (.lconst 1, 1) := by decide +kernel
theorem dX8_sound_37 : decode cX8_sound 37 = .ok (.lstore 4, 2) := by decide +kernel
theorem dX8_sound_39 : decode cX8_sound 39 = .ok (.lconst 1, 1) := by decide +kernel
theorem dX8_sound_40 : decode cX8_sound 40 = .ok (.lstore 6, 2) := by decide +kernel
theorem dX8_sound_42 : decode cX8_sound 42 = .ok (.aload_n 0, 1) := by decide +kernel
theorem dX8_sound_43 : decode cX8_sound 43 = .ok (.getfield 7, 3) := by decide +kernel
theorem dX8_sound_46 : decode cX8_sound 46 = .ok (.bipush 36, 2) := by decide +kernel
theorem dX8_sound_48 : decode cX8_sound 48 = .ok (.iload_n 1, 1) := by decide +kernel
theorem dX8_sound_49 : decode cX8_sound 49 = .ok (.iadd, 1) := by decide +kernel
theorem dX8_sound_50 : decode cX8_sound 50 = .ok (.iaload, 1) := by decide +kernel
theorem dX8_sound_51 : decode cX8_sound 51 = .ok (.invokestatic 193, 3) := by decide +kernel
theorem dX8_sound_54 : decode cX8_sound 54 = .ok (.istore 8, 2) := by decide +kernel
theorem dX8_sound_56 : decode cX8_sound 56 = .ok (.iload 8, 2) := by decide +kernel
theorem dX8_sound_58 : decode cX8_sound 58 = .ok (.ifCond .le 24, 3) := by decide +kernel
theorem dX8_sound_61 : decode cX8_sound 61 = .ok (.lload 4, 2) := by decide +kernel
theorem dX8_sound_63 : decode cX8_sound 63 = .ok (.iload_n 2, 1) := by decide +kernel
theorem dX8_sound_64 : decode cX8_sound 64 = .ok (.i2l, 1) := by decide +kernel
theorem dX8_sound_65 : decode cX8_sound 65 = .ok (.lmul, 1) := by decide +kernel
theorem dX8_sound_66 : decode cX8_sound 66 = .ok (.lstore 4, 2) := by decide +kernel
theorem dX8_sound_68 : decode cX8_sound 68 = .ok (.lload 6, 2) := by decide +kernel
theorem dX8_sound_70 : decode cX8_sound 70 = .ok (.ldc2_w 212, 3) := by decide +kernel
theorem dX8_sound_73 : decode cX8_sound 73 = .ok (.lmul, 1) := by decide +kernel
theorem dX8_sound_74 : decode cX8_sound 74 = .ok (.lstore 6, 2) := by decide +kernel
theorem dX8_sound_76 : decode cX8_sound 76 = .ok (.iinc 8 (-1), 3) := by decide +kernel
theorem dX8_sound_79 : decode cX8_sound 79 = .ok (.goto (-23), 3) := by decide +kernel
theorem dX8_sound_82 : decode cX8_sound 82 = .ok (.lload 4, 2) := by decide +kernel
theorem dX8_sound_84 : decode cX8_sound 84 = .ok (.lload 6, 2) := by decide +kernel
theorem dX8_sound_86 : decode cX8_sound 86 = .ok (.iload_n 3, 1) := by decide +kernel
theorem dX8_sound_87 : decode cX8_sound 87 = .ok (.invokestatic 196, 3) := by decide +kernel
theorem dX8_sound_90 : decode cX8_sound 90 = .ok (.ireturn, 1) := by decide +kernel
set_option maxRecDepth 20000 in
theorem ggX8_seen_X8_isMember : GoodIn wsX8_seen wsX8_isMember := goodIn_r _ [11, 12, 13, 14, 10, 15, 20, 21, 22, 23, 24, 25, 26, 27, 28, 29, 30, 31, 32, 33, 34, 35, 36, 37, 38, 39, 40, 41, 42, 43, 44, 45, 46, 47, 48, 49, 50, 51, 52, 53, 54, 55, 56] (by decide +kernel) (by decide +kernel)
set_option maxRecDepth 20000 in
theorem gX8_seen_X8_isMember : GoodIn wsX8_seen (wsV RX8 200 RX8 yX8_isMember wsX8_isMember) := goodIn_app (goodIn_of _ (by decide +kernel)) ggX8_seen_X8_isMember
set_option maxRecDepth 20000 in
theorem ggX8_seen_X8_isFact : GoodIn wsX8_seen wsX8_isFact := goodIn_r _ [19, 12, 13, 14, 10, 15, 20, 21, 22, 23, 24, 25, 26, 27, 28, 29, 30, 31, 32, 33, 34, 35, 36, 37, 38, 39, 40, 41, 42, 43, 44, 45, 46, 47, 48, 49, 50, 51, 52, 53, 54, 55, 56] (by decide +kernel) (by decide +kernel)
set_option maxRecDepth 20000 in
theorem gX8_seen_X8_isFact : GoodIn wsX8_seen (wsV RX8 190 RX8 yX8_isFact wsX8_isFact) := goodIn_app (goodIn_of _ (by decide +kernel)) ggX8_seen_X8_isFact
set_option maxRecDepth 20000 in
theorem ggX8_seen_X8_in : GoodIn wsX8_seen wsX8_in := goodIn_r _ [15] (by decide +kernel) (by decide +kernel)
set_option maxRecDepth 20000 in
theorem gX8_seen_X8_in : GoodIn wsX8_seen (va_wsS RX8 86 yX8_in wsX8_in) := goodIn_app (goodIn_of _ (by decide +kernel)) ggX8_seen_X8_in
theorem dX8_seen_0 : decode cX8_seen 0 = .ok (.aload_n 0, 1) := by decide +kernel
theorem dX8_seen_1 : decode cX8_seen 1 = .ok (.iload_n 1, 1) := by decide +kernel
theorem dX8_seen_2 : decode cX8_seen 2 = .ok (.invokevirtual 200, 3) := by decide +kernel
theorem dX8_seen_5 : decode cX8_seen 5 = .ok (.ifCond .eq 11, 3) := by decide +kernel
theorem dX8_seen_8 : decode cX8_seen 8 = .ok (.aload_n 0, 1) := by decide +kernel
theorem dX8_seen_9 : decode cX8_seen 9 = .ok (.iload_n 3, 1) := by decide +kernel
theorem dX8_seen_10 : decode cX8_seen 10 = .ok (.invokevirtual 190, 3) := by decide +kernel
theorem dX8_seen_13 : decode cX8_seen 13 = .ok (.ifCond .ne 6, 3) := by decide +kernel
theorem dX8_seen_16 : decode cX8_seen 16 = .ok (.bipush (-2), 2) := by decide +kernel
theorem dX8_seen_18 : decode cX8_seen 18 = .ok (.ireturn, 1) := by decide +kernel
theorem dX8_seen_19 : decode cX8_seen 19 = .ok (.iload_n 2, 1) := by decide +kernel
theorem dX8_seen_20 : decode cX8_seen 20 = .ok (.i2l, 1) := by decide +kernel
theorem dX8_seen_21 : decode cX8_seen 21 = .ok (.lconst 1, 1) := by decide +kernel
theorem dX8_seen_22 : decode cX8_seen 22 = .ok (.ldc2_w 280, 3) := by decide +kernel
theorem dX8_seen_25 : decode cX8_seen 25 = .ok (.invokestatic 86, 3) := by decide +kernel
theorem dX8_seen_28 : decode cX8_seen 28 = .ok (.ifCond .eq 14, 3) := by decide +kernel
theorem dX8_seen_31 : decode cX8_seen 31 = .ok (.iload 4, 2) := by decide +kernel
theorem dX8_seen_33 : decode cX8_seen 33 = .ok (.i2l, 1) := by decide +kernel
theorem dX8_seen_34 : decode cX8_seen 34 = .ok (.lconst 0, 1) := by decide +kernel
theorem dX8_seen_35 : decode cX8_seen 35 = .ok (.lconst 1, 1) := by decide +kernel
theorem dX8_seen_36 : decode cX8_seen 36 = .ok (.invokestatic 86, 3) := by decide +kernel
theorem dX8_seen_39 : decode cX8_seen 39 = .ok (.ifCond .ne 6, 3) := by decide +kernel
theorem dX8_seen_42 : decode cX8_seen 42 = .ok (.bipush (-3), 2) := by decide +kernel
theorem dX8_seen_44 : decode cX8_seen 44 = .ok (.ireturn, 1) := by decide +kernel
theorem dX8_seen_45 : decode cX8_seen 45 = .ok (.aload_n 0, 1) := by decide +kernel
theorem dX8_seen_46 : decode cX8_seen 46 = .ok (.getfield 187, 3) := by decide +kernel
theorem dX8_seen_49 : decode cX8_seen 49 = .ok (.bipush 6, 2) := by decide +kernel
theorem dX8_seen_51 : decode cX8_seen 51 = .ok (.if_icmp .ne 6, 3) := by decide +kernel
theorem dX8_seen_54 : decode cX8_seen 54 = .ok (.bipush (-5), 2) := by decide +kernel
theorem dX8_seen_56 : decode cX8_seen 56 = .ok (.ireturn, 1) := by decide +kernel
theorem dX8_seen_57 : decode cX8_seen 57 = .ok (.aload_n 0, 1) := by decide +kernel
theorem dX8_seen_58 : decode cX8_seen 58 = .ok (.getfield 20, 3) := by decide +kernel
theorem dX8_seen_61 : decode cX8_seen 61 = .ok (.aload_n 0, 1) := by decide +kernel
theorem dX8_seen_62 : decode cX8_seen 62 = .ok (.getfield 187, 3) := by decide +kernel
theorem dX8_seen_65 : decode cX8_seen 65 = .ok (.iload_n 1, 1) := by decide +kernel
theorem dX8_seen_66 : decode cX8_seen 66 = .ok (.iastore, 1) := by decide +kernel
theorem dX8_seen_67 : decode cX8_seen 67 = .ok (.aload_n 0, 1) := by decide +kernel
theorem dX8_seen_68 : decode cX8_seen 68 = .ok (.getfield 23, 3) := by decide +kernel
theorem dX8_seen_71 : decode cX8_seen 71 = .ok (.aload_n 0, 1) := by decide +kernel
theorem dX8_seen_72 : decode cX8_seen 72 = .ok (.getfield 187, 3) := by decide +kernel
theorem dX8_seen_75 : decode cX8_seen 75 = .ok (.iload_n 2, 1) := by decide +kernel
theorem dX8_seen_76 : decode cX8_seen 76 = .ok (.iastore, 1) := by decide +kernel
theorem dX8_seen_77 : decode cX8_seen 77 = .ok (.aload_n 0, 1) := by decide +kernel
theorem dX8_seen_78 : decode cX8_seen 78 = .ok (.getfield 26, 3) := by decide +kernel
theorem dX8_seen_81 : decode cX8_seen 81 = .ok (.aload_n 0, 1) := by decide +kernel
theorem dX8_seen_82 : decode cX8_seen 82 = .ok (.getfield 187, 3) := by decide +kernel
theorem dX8_seen_85 : decode cX8_seen 85 = .ok (.iload_n 3, 1) := by decide +kernel
theorem dX8_seen_86 : decode cX8_seen 86 = .ok (.iastore, 1) := by decide +kernel
theorem dX8_seen_87 : decode cX8_seen 87 = .ok (.aload_n 0, 1) := by decide +kernel
theorem dX8_seen_88 : decode cX8_seen 88 = .ok (.getfield 29, 3) := by decide +kernel
theorem dX8_seen_91 : decode cX8_seen 91 = .ok (.aload_n 0, 1) := by decide +kernel
theorem dX8_seen_92 : decode cX8_seen 92 = .ok (.getfield 187, 3) := by decide +kernel
theorem dX8_seen_95 : decode cX8_seen 95 = .ok (.iload 4, 2) := by decide +kernel
theorem dX8_seen_97 : decode cX8_seen 97 = .ok (.iastore, 1) := by decide +kernel
theorem dX8_seen_98 : decode cX8_seen 98 = .ok (.aload_n 0, 1) := by decide +kernel
theorem dX8_seen_99 : decode cX8_seen 99 = .ok (.dup, 1) := by decide +kernel
theorem dX8_seen_100 : decode cX8_seen 100 = .ok (.getfield 187, 3) := by decide +kernel
theorem dX8_seen_103 : decode cX8_seen 103 = .ok (.iconst 1, 1) := by decide +kernel
theorem dX8_seen_104 : decode cX8_seen 104 = .ok (.iadd, 1) := by decide +kernel
theorem dX8_seen_105 : decode cX8_seen 105 = .ok (.putfield 187, 3) := by decide +kernel
theorem dX8_seen_108 : decode cX8_seen 108 = .ok (.aload_n 0, 1) := by decide +kernel
theorem dX8_seen_109 : decode cX8_seen 109 = .ok (.getfield 187, 3) := by decide +kernel
theorem dX8_seen_112 : decode cX8_seen 112 = .ok (.ireturn, 1) := by decide +kernel
theorem dX8_forget_0 : decode cX8_forget 0 = .ok (.aload_n 0, 1) := by decide +kernel
theorem dX8_forget_1 : decode cX8_forget 1 = .ok (.getfield 187, 3) := by decide +kernel
theorem dX8_forget_4 : decode cX8_forget 4 = .ok (.istore_n 1, 1) := by decide +kernel
theorem dX8_forget_5 : decode cX8_forget 5 = .ok (.aload_n 0, 1) := by decide +kernel
theorem dX8_forget_6 : decode cX8_forget 6 = .ok (.iconst 0, 1) := by decide +kernel
theorem dX8_forget_7 : decode cX8_forget 7 = .ok (.putfield 187, 3) := by decide +kernel
theorem dX8_forget_10 : decode cX8_forget 10 = .ok (.iload_n 1, 1) := by decide +kernel
theorem dX8_forget_11 : decode cX8_forget 11 = .ok (.ireturn, 1) := by decide +kernel
set_option maxRecDepth 20000 in
theorem ggX8_knowsBehind_X8_sucks : GoodIn wsX8_knowsBehind wsX8_sucks := goodIn_r _ [8, 1, 9, 3, 10, 11, 7, 12, 13, 14, 15, 16, 17, 18, 19, 20, 21, 22, 23, 24, 25, 26, 27, 28, 2, 29, 30, 31, 32, 33, 34, 35, 36, 37, 38, 39, 40, 41, 42, 43, 44, 45, 46, 47, 48, 49, 50, 51, 52, 53, 54, 55, 56, 57, 58, 59, 60, 61, 62, 63, 64, 65] (by decide +kernel) (by decide +kernel)
set_option maxRecDepth 20000 in
theorem gX8_knowsBehind_X8_sucks : GoodIn wsX8_knowsBehind (wsV RX8 236 RX8 yX8_sucks wsX8_sucks) := goodIn_app (goodIn_of _ (by decide +kernel)) ggX8_knowsBehind_X8_sucks
theorem dX8_knowsBehind_0 : decode cX8_knowsBehind 0 = .ok (.aload_n 0, 1) := by decide +kernel
theorem dX8_knowsBehind_1 : decode cX8_knowsBehind 1 = .ok (.iconst 0, 1) := by decide +kernel
theorem dX8_knowsBehind_2 : decode cX8_knowsBehind 2 = .ok (.putfield 217, 3) := by decide +kernel
theorem dX8_knowsBehind_5 : decode cX8_knowsBehind 5 = .ok (.aload_n 0, 1) := by decide +kernel
theorem dX8_knowsBehind_6 : decode cX8_knowsBehind 6 = .ok (.aload_n 0, 1) := by decide +kernel
theorem dX8_knowsBehind_7 : decode cX8_knowsBehind 7 = .ok (.getfield 7, 3) := by decide +kernel
theorem dX8_knowsBehind_10 : decode cX8_knowsBehind 10 = .ok (.iconst 0, 1) := by decide +kernel
theorem dX8_knowsBehind_11 : decode cX8_knowsBehind 11 = .ok (.iload_n 1, 1) := by decide +kernel
theorem dX8_knowsBehind_12 : decode cX8_knowsBehind 12 = .ok (.iadd, 1) := by decide +kernel
theorem dX8_knowsBehind_13 : decode cX8_knowsBehind 13 = .ok (.iaload, 1) := by decide +kernel
theorem dX8_knowsBehind_14 : decode cX8_knowsBehind 14 = .ok (.putfield 226, 3) := by decide +kernel
theorem dX8_knowsBehind_17 : decode cX8_knowsBehind 17 = .ok (.iconst 0, 1) := by decide +kernel
theorem dX8_knowsBehind_18 : decode cX8_knowsBehind 18 = .ok (.istore 4, 2) := by decide +kernel
theorem dX8_knowsBehind_20 : decode cX8_knowsBehind 20 = .ok (.iload 4, 2) := by decide +kernel
theorem dX8_knowsBehind_22 : decode cX8_knowsBehind 22 = .ok (.iload_n 3, 1) := by decide +kernel
theorem dX8_knowsBehind_23 : decode cX8_knowsBehind 23 = .ok (.if_icmp .ge 14, 3) := by decide +kernel
theorem dX8_knowsBehind_26 : decode cX8_knowsBehind 26 = .ok (.aload_n 0, 1) := by decide +kernel
theorem dX8_knowsBehind_27 : decode cX8_knowsBehind 27 = .ok (.iload_n 2, 1) := by decide +kernel
theorem dX8_knowsBehind_28 : decode cX8_knowsBehind 28 = .ok (.invokevirtual 236, 3) := by decide +kernel
theorem dX8_knowsBehind_31 : decode cX8_knowsBehind 31 = .ok (.iinc 4 1, 3) := by decide +kernel
theorem dX8_knowsBehind_34 : decode cX8_knowsBehind 34 = .ok (.goto (-14), 3) := by decide +kernel
theorem dX8_knowsBehind_37 : decode cX8_knowsBehind 37 = .ok (.aload_n 0, 1) := by decide +kernel
theorem dX8_knowsBehind_38 : decode cX8_knowsBehind 38 = .ok (.getfield 226, 3) := by decide +kernel
theorem dX8_knowsBehind_41 : decode cX8_knowsBehind 41 = .ok (.ireturn, 1) := by decide +kernel
set_option maxRecDepth 20000 in
theorem ggX8_kinds_X8_knowsBehind : GoodIn wsX8_kinds wsX8_knowsBehind := goodIn_r _ [10, 11, 12, 13, 14, 15, 16, 9, 17, 18, 19, 20, 21, 22, 23, 24, 25, 26, 27, 28, 29, 30, 31, 32, 33, 34, 35, 36, 37, 38, 39, 40, 41, 42, 43, 44, 45, 46, 47, 48, 49, 50, 51, 52, 53, 54, 55, 56, 57, 58, 59, 60, 61, 62, 63, 64, 65, 66, 67, 68, 69, 70, 71, 72, 73, 74] (by decide +kernel) (by decide +kernel)
set_option maxRecDepth 20000 in
theorem gX8_kinds_X8_knowsBehind : GoodIn wsX8_kinds (wsV RX8 282 RX8 yX8_knowsBehind wsX8_knowsBehind) := goodIn_app (goodIn_of _ (by decide +kernel)) ggX8_kinds_X8_knowsBehind
set_option maxRecDepth 20000 in
theorem ggX8_kinds_X8_has : GoodIn wsX8_kinds wsX8_has := goodIn_r _ [33] (by decide +kernel) (by decide +kernel)
set_option maxRecDepth 20000 in
theorem gX8_kinds_X8_has : GoodIn wsX8_kinds (va_wsS RX8 121 yX8_has wsX8_has) := goodIn_app (goodIn_of _ (by decide +kernel)) ggX8_kinds_X8_has
theorem dX8_kinds_0 : decode cX8_kinds 0 = .ok (.iconst 0, 1) := by decide +kernel
theorem dX8_kinds_1 : decode cX8_kinds 1 = .ok (.istore_n 1, 1) := by decide +kernel
theorem dX8_kinds_2 : decode cX8_kinds 2 = .ok (.iconst 0, 1) := by decide +kernel
theorem dX8_kinds_3 : decode cX8_kinds 3 = .ok (.istore_n 2, 1) := by decide +kernel
theorem dX8_kinds_4 : decode cX8_kinds 4 = .ok (.iload_n 2, 1) := by decide +kernel
theorem dX8_kinds_5 : decode cX8_kinds 5 = .ok (.iconst 5, 1) := by decide +kernel
theorem dX8_kinds_6 : decode cX8_kinds 6 = .ok (.if_icmp .ge 101, 3) := by decide +kernel
theorem dX8_kinds_9 : decode cX8_kinds 9 = .ok (.iconst 1, 1) := by decide +kernel
theorem dX8_kinds_10 : decode cX8_kinds 10 = .ok (.istore_n 3, 1) := by decide +kernel
theorem dX8_kinds_11 : decode cX8_kinds 11 = .ok (.iconst 0, 1) := by decide +kernel
theorem dX8_kinds_12 : decode cX8_kinds 12 = .ok (.istore 4, 2) := by decide +kernel
theorem dX8_kinds_14 : decode cX8_kinds 14 = .ok (.iload 4, 2) := by decide +kernel
theorem dX8_kinds_16 : decode cX8_kinds 16 = .ok (.aload_n 0, 1) := by decide +kernel
theorem dX8_kinds_17 : decode cX8_kinds 17 = .ok (.getfield 187, 3) := by decide +kernel
theorem dX8_kinds_20 : decode cX8_kinds 20 = .ok (.if_icmp .ge 67, 3) := by decide +kernel
theorem dX8_kinds_23 : decode cX8_kinds 23 = .ok (.iload_n 3, 1) := by decide +kernel
theorem dX8_kinds_24 : decode cX8_kinds 24 = .ok (.ifCond .eq 55, 3) := by decide +kernel
theorem dX8_kinds_27 : decode cX8_kinds 27 = .ok (.aload_n 0, 1) := by decide +kernel
theorem dX8_kinds_28 : decode cX8_kinds 28 = .ok (.aload_n 0, 1) := by decide +kernel
theorem dX8_kinds_29 : decode cX8_kinds 29 = .ok (.getfield 20, 3) := by decide +kernel
theorem dX8_kinds_32 : decode cX8_kinds 32 = .ok (.iload 4, 2) := by decide +kernel
theorem dX8_kinds_34 : decode cX8_kinds 34 = .ok (.iaload, 1) := by decide +kernel
theorem dX8_kinds_35 : decode cX8_kinds 35 = .ok (.iload_n 2, 1) := by decide +kernel
theorem dX8_kinds_36 : decode cX8_kinds 36 = .ok (.aload_n 0, 1) := by decide +kernel
theorem dX8_kinds_37 : decode cX8_kinds 37 = .ok (.getfield 23, 3) := by decide +kernel
theorem dX8_kinds_40 : decode cX8_kinds 40 = .ok (.iload 4, 2) := by decide +kernel
theorem dX8_kinds_42 : decode cX8_kinds 42 = .ok (.iaload, 1) := by decide +kernel
theorem dX8_kinds_43 : decode cX8_kinds 43 = .ok (.invokevirtual 282, 3) := by decide +kernel
theorem dX8_kinds_46 : decode cX8_kinds 46 = .ok (.aload_n 0, 1) := by decide +kernel
theorem dX8_kinds_47 : decode cX8_kinds 47 = .ok (.getfield 26, 3) := by decide +kernel
theorem dX8_kinds_50 : decode cX8_kinds 50 = .ok (.iload 4, 2) := by decide +kernel
theorem dX8_kinds_52 : decode cX8_kinds 52 = .ok (.iaload, 1) := by decide +kernel
theorem dX8_kinds_53 : decode cX8_kinds 53 = .ok (.invokestatic 121, 3) := by decide +kernel
theorem dX8_kinds_56 : decode cX8_kinds 56 = .ok (.aload_n 0, 1) := by decide +kernel
theorem dX8_kinds_57 : decode cX8_kinds 57 = .ok (.getfield 29, 3) := by decide +kernel
theorem dX8_kinds_60 : decode cX8_kinds 60 = .ok (.iload 4, 2) := by decide +kernel
theorem dX8_kinds_62 : decode cX8_kinds 62 = .ok (.iaload, 1) := by decide +kernel
theorem dX8_kinds_63 : decode cX8_kinds 63 = .ok (.iconst 1, 1) := by decide +kernel
theorem dX8_kinds_64 : decode cX8_kinds 64 = .ok (.if_icmp .ne 7, 3) := by decide +kernel
theorem dX8_kinds_67 : decode cX8_kinds 67 = .ok (.iconst 1, 1) := by decide +kernel
theorem dX8_kinds_68 : decode cX8_kinds 68 = .ok (.goto 4, 3) := by decide +kernel
theorem dX8_kinds_71 : decode cX8_kinds 71 = .ok (.iconst 0, 1) := by decide +kernel
theorem dX8_kinds_72 : decode cX8_kinds 72 = .ok (.if_icmp .ne 7, 3) := by decide +kernel
theorem dX8_kinds_75 : decode cX8_kinds 75 = .ok (.iconst 1, 1) := by decide +kernel
theorem dX8_kinds_76 : decode cX8_kinds 76 = .ok (.goto 4, 3) := by decide +kernel
theorem dX8_kinds_79 : decode cX8_kinds 79 = .ok (.iconst 0, 1) := by decide +kernel
theorem dX8_kinds_80 : decode cX8_kinds 80 = .ok (.istore_n 3, 1) := by decide +kernel
theorem dX8_kinds_81 : decode cX8_kinds 81 = .ok (.iinc 4 1, 3) := by decide +kernel
theorem dX8_kinds_84 : decode cX8_kinds 84 = .ok (.goto (-70), 3) := by decide +kernel
theorem dX8_kinds_87 : decode cX8_kinds 87 = .ok (.iload_n 1, 1) := by decide +kernel
theorem dX8_kinds_88 : decode cX8_kinds 88 = .ok (.iload_n 3, 1) := by decide +kernel
theorem dX8_kinds_89 : decode cX8_kinds 89 = .ok (.ifCond .eq 9, 3) := by decide +kernel
theorem dX8_kinds_92 : decode cX8_kinds 92 = .ok (.iconst 1, 1) := by decide +kernel
theorem dX8_kinds_93 : decode cX8_kinds 93 = .ok (.iload_n 2, 1) := by decide +kernel
theorem dX8_kinds_94 : decode cX8_kinds 94 = .ok (.ishl, 1) := by decide +kernel
theorem dX8_kinds_95 : decode cX8_kinds 95 = .ok (.goto 4, 3) := by decide +kernel
theorem dX8_kinds_98 : decode cX8_kinds 98 = .ok (.iconst 0, 1) := by decide +kernel
theorem dX8_kinds_99 : decode cX8_kinds 99 = .ok (.ior, 1) := by decide +kernel
theorem dX8_kinds_100 : decode cX8_kinds 100 = .ok (.istore_n 1, 1) := by decide +kernel
theorem dX8_kinds_101 : decode cX8_kinds 101 = .ok (.iinc 2 1, 3) := by decide +kernel
theorem dX8_kinds_104 : decode cX8_kinds 104 = .ok (.goto (-100), 3) := by decide +kernel
theorem dX8_kinds_107 : decode cX8_kinds 107 = .ok (.iload_n 1, 1) := by decide +kernel
theorem dX8_kinds_108 : decode cX8_kinds 108 = .ok (.ireturn, 1) := by decide +kernel
set_option maxRecDepth 20000 in
theorem ggX8_ask_X8_isMember : GoodIn wsX8_ask wsX8_isMember := goodIn_r _ [7, 2, 8, 9, 6, 10, 50, 51, 52, 53, 54, 55, 56, 57, 58, 59, 60, 61, 62, 63, 64, 65, 66, 67, 68, 69, 70, 71, 72, 73, 74, 75, 76, 77, 78, 79, 80, 81, 82, 83, 84, 85, 86] (by decide +kernel) (by decide +kernel)
set_option maxRecDepth 20000 in
theorem gX8_ask_X8_isMember : GoodIn wsX8_ask (wsV RX8 200 RX8 yX8_isMember wsX8_isMember) := goodIn_app (goodIn_of _ (by decide +kernel)) ggX8_ask_X8_isMember
set_option maxRecDepth 20000 in
theorem ggX8_ask_X8_in : GoodIn wsX8_ask wsX8_in := goodIn_r _ [10] (by decide +kernel) (by decide +kernel)
set_option maxRecDepth 20000 in
theorem gX8_ask_X8_in : GoodIn wsX8_ask (va_wsS RX8 86 yX8_in wsX8_in) := goodIn_app (goodIn_of _ (by decide +kernel)) ggX8_ask_X8_in
set_option maxRecDepth 20000 in
theorem ggX8_ask_X8_kinds : GoodIn wsX8_ask wsX8_kinds := goodIn_r _ [14, 15, 16, 17, 18, 19, 20, 21, 22, 6, 23, 24, 2, 25, 26, 27, 28, 29, 30, 31, 32, 33, 34, 35, 36, 37, 38, 39, 40, 41, 42, 43, 44, 45, 46, 47, 48, 49, 50, 51, 52, 53, 54, 55, 56, 57, 58, 59, 60, 61, 62, 63, 64, 65, 66, 67, 68, 69, 70, 71, 72, 73, 74, 75, 76, 77, 78, 79, 80, 81, 82, 83, 84, 85, 86] (by decide +kernel) (by decide +kernel)
set_option maxRecDepth 20000 in
theorem gX8_ask_X8_kinds : GoodIn wsX8_ask (wsV RX8 286 RX8 yX8_kinds wsX8_kinds) := goodIn_app (goodIn_of _ (by decide +kernel)) ggX8_ask_X8_kinds
set_option maxRecDepth 20000 in
theorem ggX8_ask_X8_bits : GoodIn wsX8_ask wsX8_bits := goodIn_r _ [33] (by decide +kernel) (by decide +kernel)
set_option maxRecDepth 20000 in
theorem gX8_ask_X8_bits : GoodIn wsX8_ask (va_wsS RX8 193 yX8_bits wsX8_bits) := goodIn_app (goodIn_of _ (by decide +kernel)) ggX8_ask_X8_bits
set_option maxRecDepth 20000 in
theorem ggX8_ask_X8_has : GoodIn wsX8_ask wsX8_has := goodIn_r _ [45] (by decide +kernel) (by decide +kernel)
set_option maxRecDepth 20000 in
theorem gX8_ask_X8_has : GoodIn wsX8_ask (va_wsS RX8 121 yX8_has wsX8_has) := goodIn_app (goodIn_of _ (by decide +kernel)) ggX8_ask_X8_has
set_option maxRecDepth 20000 in
theorem ggX8_ask_X8_knowsBehind : GoodIn wsX8_ask wsX8_knowsBehind := goodIn_r _ [23, 24, 2, 25, 26, 27, 28, 6, 29, 30, 31, 32, 33, 34, 35, 36, 37, 38, 39, 40, 41, 42, 43, 44, 45, 46, 47, 48, 49, 50, 51, 52, 53, 54, 55, 56, 57, 58, 59, 60, 61, 62, 63, 64, 65, 66, 67, 68, 69, 70, 71, 72, 73, 74, 75, 76, 77, 78, 79, 80, 81, 82, 83, 84, 85, 86] (by decide +kernel) (by decide +kernel)
set_option maxRecDepth 20000 in
theorem gX8_ask_X8_knowsBehind : GoodIn wsX8_ask (wsV RX8 282 RX8 yX8_knowsBehind wsX8_knowsBehind) := goodIn_app (goodIn_of _ (by decide +kernel)) ggX8_ask_X8_knowsBehind
theorem dX8_ask_0 : decode cX8_ask 0 = .ok (.aload_n 0, 1) := by decide +kernel
theorem dX8_ask_1 : decode cX8_ask 1 = .ok (.iload_n 1, 1) := by decide +kernel
theorem dX8_ask_2 : decode cX8_ask 2 = .ok (.invokevirtual 200, 3) := by decide +kernel
theorem dX8_ask_5 : decode cX8_ask 5 = .ok (.ifCond .ne 6, 3) := by decide +kernel
theorem dX8_ask_8 : decode cX8_ask 8 = .ok (.bipush (-2), 2) := by decide +kernel
theorem dX8_ask_10 : decode cX8_ask 10 = .ok (.ireturn, 1) := by decide +kernel
theorem dX8_ask_11 : decode cX8_ask 11 = .ok (.iload_n 2, 1) := by decide +kernel
theorem dX8_ask_12 : decode cX8_ask 12 = .ok (.i2l, 1) := by decide +kernel
theorem dX8_ask_13 : decode cX8_ask 13 = .ok (.lconst 1, 1) := by decide +kernel
theorem dX8_ask_14 : decode cX8_ask 14 = .ok (.ldc2_w 280, 3) := by decide +kernel
theorem dX8_ask_17 : decode cX8_ask 17 = .ok (.invokestatic 86, 3) := by decide +kernel
theorem dX8_ask_20 : decode cX8_ask 20 = .ok (.ifCond .ne 6, 3) := by decide +kernel
theorem dX8_ask_23 : decode cX8_ask 23 = .ok (.bipush (-3), 2) := by decide +kernel
theorem dX8_ask_25 : decode cX8_ask 25 = .ok (.ireturn, 1) := by decide +kernel
theorem dX8_ask_26 : decode cX8_ask 26 = .ok (.aload_n 0, 1) := by decide +kernel
theorem dX8_ask_27 : decode cX8_ask 27 = .ok (.invokevirtual 286, 3) := by decide +kernel
theorem dX8_ask_30 : decode cX8_ask 30 = .ok (.istore_n 3, 1) := by decide +kernel
theorem dX8_ask_31 : decode cX8_ask 31 = .ok (.iconst (-1), 1) := by decide +kernel
theorem dX8_ask_32 : decode cX8_ask 32 = .ok (.istore 4, 2) := by decide +kernel
theorem dX8_ask_34 : decode cX8_ask 34 = .ok (.iload_n 3, 1) := by decide +kernel
theorem dX8_ask_35 : decode cX8_ask 35 = .ok (.invokestatic 193, 3) := by decide +kernel
theorem dX8_ask_38 : decode cX8_ask 38 = .ok (.istore 5, 2) := by decide +kernel
theorem dX8_ask_40 : decode cX8_ask 40 = .ok (.iconst 0, 1) := by decide +kernel
theorem dX8_ask_41 : decode cX8_ask 41 = .ok (.istore 6, 2) := by decide +kernel
theorem dX8_ask_43 : decode cX8_ask 43 = .ok (.iload 6, 2) := by decide +kernel
theorem dX8_ask_45 : decode cX8_ask 45 = .ok (.aload_n 0, 1) := by decide +kernel
theorem dX8_ask_46 : decode cX8_ask 46 = .ok (.getfield 7, 3) := by decide +kernel
theorem dX8_ask_49 : decode cX8_ask 49 = .ok (.bipush 23, 2) := by decide +kernel
theorem dX8_ask_51 : decode cX8_ask 51 = .ok (.iaload, 1) := by decide +kernel
theorem dX8_ask_52 : decode cX8_ask 52 = .ok (.if_icmp .ge 120, 3) := by decide +kernel
theorem dX8_ask_55 : decode cX8_ask 55 = .ok (.iconst 0, 1) := by decide +kernel
theorem dX8_ask_56 : decode cX8_ask 56 = .ok (.istore 7, 2) := by decide +kernel
theorem dX8_ask_58 : decode cX8_ask 58 = .ok (.iconst 0, 1) := by decide +kernel
theorem dX8_ask_59 : decode cX8_ask 59 = .ok (.istore 8, 2) := by decide +kernel
theorem dX8_ask_61 : decode cX8_ask 61 = .ok (.iload 8, 2) := by decide +kernel
theorem dX8_ask_63 : decode cX8_ask 63 = .ok (.iconst 5, 1) := by decide +kernel
theorem dX8_ask_64 : decode cX8_ask 64 = .ok (.if_icmp .ge 44, 3) := by decide +kernel
theorem dX8_ask_67 : decode cX8_ask 67 = .ok (.iload 7, 2) := by decide +kernel
theorem dX8_ask_69 : decode cX8_ask 69 = .ok (.iload_n 3, 1) := by decide +kernel
theorem dX8_ask_70 : decode cX8_ask 70 = .ok (.iload 8, 2) := by decide +kernel
theorem dX8_ask_72 : decode cX8_ask 72 = .ok (.invokestatic 121, 3) := by decide +kernel
theorem dX8_ask_75 : decode cX8_ask 75 = .ok (.ifCond .eq 23, 3) := by decide +kernel
theorem dX8_ask_78 : decode cX8_ask 78 = .ok (.aload_n 0, 1) := by decide +kernel
theorem dX8_ask_79 : decode cX8_ask 79 = .ok (.iload_n 1, 1) := by decide +kernel
theorem dX8_ask_80 : decode cX8_ask 80 = .ok (.iload 8, 2) := by decide +kernel
theorem dX8_ask_82 : decode cX8_ask 82 = .ok (.iload_n 2, 1) := by decide +kernel
theorem dX8_ask_83 : decode cX8_ask 83 = .ok (.invokevirtual 282, 3) := by decide +kernel
theorem dX8_ask_86 : decode cX8_ask 86 = .ok (.iload 6, 2) := by decide +kernel
theorem dX8_ask_88 : decode cX8_ask 88 = .ok (.invokestatic 121, 3) := by decide +kernel
theorem dX8_ask_91 : decode cX8_ask 91 = .ok (.ifCond .eq 7, 3) := by decide +kernel
theorem dX8_ask_94 : decode cX8_ask 94 = .ok (.iconst 1, 1) := by decide +kernel
theorem dX8_ask_95 : decode cX8_ask 95 = .ok (.goto 4, 3) := by decide +kernel
theorem dX8_ask_98 : decode cX8_ask 98 = .ok (.iconst 0, 1) := by decide +kernel
theorem dX8_ask_99 : decode cX8_ask 99 = .ok (.iadd, 1) := by decide +kernel
theorem dX8_ask_100 : decode cX8_ask 100 = .ok (.istore 7, 2) := by decide +kernel
theorem dX8_ask_102 : decode cX8_ask 102 = .ok (.iinc 8 1, 3) := by decide +kernel
theorem dX8_ask_105 : decode cX8_ask 105 = .ok (.goto (-44), 3) := by decide +kernel
theorem dX8_ask_108 : decode cX8_ask 108 = .ok (.iload 7, 2) := by decide +kernel
theorem dX8_ask_110 : decode cX8_ask 110 = .ok (.iload_n 3, 1) := by decide +kernel
theorem dX8_ask_111 : decode cX8_ask 111 = .ok (.invokestatic 193, 3) := by decide +kernel
theorem dX8_ask_114 : decode cX8_ask 114 = .ok (.iload 7, 2) := by decide +kernel
theorem dX8_ask_116 : decode cX8_ask 116 = .ok (.isub, 1) := by decide +kernel
theorem dX8_ask_117 : decode cX8_ask 117 = .ok (.if_icmp .le 8, 3) := by decide +kernel
theorem dX8_ask_120 : decode cX8_ask 120 = .ok (.iload 7, 2) := by decide +kernel
theorem dX8_ask_122 : decode cX8_ask 122 = .ok (.goto 10, 3) := by decide +kernel
theorem dX8_ask_125 : decode cX8_ask 125 = .ok (.iload_n 3, 1) := by decide +kernel
theorem dX8_ask_126 : decode cX8_ask 126 = .ok (.invokestatic 193, 3) := by decide +kernel
theorem dX8_ask_129 : decode cX8_ask 129 = .ok (.iload 7, 2) := by decide +kernel
theorem dX8_ask_131 : decode cX8_ask 131 = .ok (.isub, 1) := by decide +kernel
theorem dX8_ask_132 : decode cX8_ask 132 = .ok (.istore 8, 2) := by decide +kernel
theorem dX8_ask_134 : decode cX8_ask 134 = .ok (.iload 8, 2) := by decide +kernel
theorem dX8_ask_136 : decode cX8_ask 136 = .ok (.iload 5, 2) := by decide +kernel
theorem dX8_ask_138 : decode cX8_ask 138 = .ok (.if_icmp .ge 8, 3) := by decide +kernel
theorem dX8_ask_141 : decode cX8_ask 141 = .ok (.iload 6, 2) := by decide +kernel
theorem dX8_ask_143 : decode cX8_ask 143 = .ok (.goto 5, 3) := by decide +kernel
theorem dX8_ask_146 : decode cX8_ask 146 = .ok (.iload 4, 2) := by decide +kernel
theorem dX8_ask_148 : decode cX8_ask 148 = .ok (.istore 4, 2) := by decide +kernel
theorem dX8_ask_150 : decode cX8_ask 150 = .ok (.iload 8, 2) := by decide +kernel
theorem dX8_ask_152 : decode cX8_ask 152 = .ok (.iload 5, 2) := by decide +kernel
theorem dX8_ask_154 : decode cX8_ask 154 = .ok (.if_icmp .ge 8, 3) := by decide +kernel
theorem dX8_ask_157 : decode cX8_ask 157 = .ok (.iload 8, 2) := by decide +kernel
theorem dX8_ask_159 : decode cX8_ask 159 = .ok (.goto 5, 3) := by decide +kernel
theorem dX8_ask_162 : decode cX8_ask 162 = .ok (.iload 5, 2) := by decide +kernel
theorem dX8_ask_164 : decode cX8_ask 164 = .ok (.istore 5, 2) := by decide +kernel
theorem dX8_ask_166 : decode cX8_ask 166 = .ok (.iinc 6 1, 3) := by decide +kernel
theorem dX8_ask_169 : decode cX8_ask 169 = .ok (.goto (-126), 3) := by decide +kernel
theorem dX8_ask_172 : decode cX8_ask 172 = .ok (.iload 4, 2) := by decide +kernel
theorem dX8_ask_174 : decode cX8_ask 174 = .ok (.ireturn, 1) := by decide +kernel
set_option maxRecDepth 20000 in
theorem ggX8_isSlate_X8_in : GoodIn wsX8_isSlate wsX8_in := goodIn_r _ [5] (by decide +kernel) (by decide +kernel)
set_option maxRecDepth 20000 in
theorem gX8_isSlate_X8_in : GoodIn wsX8_isSlate (va_wsS RX8 86 yX8_in wsX8_in) := goodIn_app (goodIn_of _ (by decide +kernel)) ggX8_isSlate_X8_in
theorem dX8_isSlate_0 : decode cX8_isSlate 0 = .ok (.iload_n 0, 1) := by decide +kernel
theorem dX8_isSlate_1 : decode cX8_isSlate 1 = .ok (.i2l, 1) := by decide +kernel
theorem dX8_isSlate_2 : decode cX8_isSlate 2 = .ok (.lconst 0, 1) := by decide +kernel
theorem dX8_isSlate_3 : decode cX8_isSlate 3 = .ok (.ldc2_w 289, 3) := by decide +kernel
theorem dX8_isSlate_6 : decode cX8_isSlate 6 = .ok (.invokestatic 86, 3) := by decide +kernel
theorem dX8_isSlate_9 : decode cX8_isSlate 9 = .ok (.ireturn, 1) := by decide +kernel
set_option maxRecDepth 20000 in
theorem ggX8_slate_X8_isSlate : GoodIn wsX8_slate wsX8_isSlate := goodIn_r _ [9, 10, 11, 12, 8, 13] (by decide +kernel) (by decide +kernel)
set_option maxRecDepth 20000 in
theorem gX8_slate_X8_isSlate : GoodIn wsX8_slate (va_wsS RX8 291 yX8_isSlate wsX8_isSlate) := goodIn_app (goodIn_of _ (by decide +kernel)) ggX8_slate_X8_isSlate
set_option maxRecDepth 20000 in
theorem ggX8_slate_X8_in : GoodIn wsX8_slate wsX8_in := goodIn_r _ [13] (by decide +kernel) (by decide +kernel)
set_option maxRecDepth 20000 in
theorem gX8_slate_X8_in : GoodIn wsX8_slate (va_wsS RX8 86 yX8_in wsX8_in) := goodIn_app (goodIn_of _ (by decide +kernel)) ggX8_slate_X8_in
theorem dX8_slate_0 : decode cX8_slate 0 = .ok (.iload_n 1, 1) := by decide +kernel
theorem dX8_slate_1 : decode cX8_slate 1 = .ok (.invokestatic 291, 3) := by decide +kernel
theorem dX8_slate_4 : decode cX8_slate 4 = .ok (.ifCond .ne 6, 3) := by decide +kernel
theorem dX8_slate_7 : decode cX8_slate 7 = .ok (.bipush (-2), 2) := by decide +kernel
theorem dX8_slate_9 : decode cX8_slate 9 = .ok (.ireturn, 1) := by decide +kernel
theorem dX8_slate_10 : decode cX8_slate 10 = .ok (.iload_n 2, 1) := by decide +kernel
theorem dX8_slate_11 : decode cX8_slate 11 = .ok (.i2l, 1) := by decide +kernel
theorem dX8_slate_12 : decode cX8_slate 12 = .ok (.lconst 0, 1) := by decide +kernel
theorem dX8_slate_13 : decode cX8_slate 13 = .ok (.ldc2_w 294, 3) := by decide +kernel
theorem dX8_slate_16 : decode cX8_slate 16 = .ok (.invokestatic 86, 3) := by decide +kernel
theorem dX8_slate_19 : decode cX8_slate 19 = .ok (.ifCond .eq 9, 3) := by decide +kernel
theorem dX8_slate_22 : decode cX8_slate 22 = .ok (.iload_n 3, 1) := by decide +kernel
theorem dX8_slate_23 : decode cX8_slate 23 = .ok (.bipush 10, 2) := by decide +kernel
theorem dX8_slate_25 : decode cX8_slate 25 = .ok (.if_icmp .le 6, 3) := by decide +kernel
theorem dX8_slate_28 : decode cX8_slate 28 = .ok (.bipush (-3), 2) := by decide +kernel
theorem dX8_slate_30 : decode cX8_slate 30 = .ok (.ireturn, 1) := by decide +kernel
theorem dX8_slate_31 : decode cX8_slate 31 = .ok (.iload_n 3, 1) := by decide +kernel
theorem dX8_slate_32 : decode cX8_slate 32 = .ok (.ifCond .ge 6, 3) := by decide +kernel
theorem dX8_slate_35 : decode cX8_slate 35 = .ok (.bipush (-16), 2) := by decide +kernel
theorem dX8_slate_37 : decode cX8_slate 37 = .ok (.ireturn, 1) := by decide +kernel
theorem dX8_slate_38 : decode cX8_slate 38 = .ok (.aload_n 0, 1) := by decide +kernel
theorem dX8_slate_39 : decode cX8_slate 39 = .ok (.getfield 32, 3) := by decide +kernel
theorem dX8_slate_42 : decode cX8_slate 42 = .ok (.iload_n 1, 1) := by decide +kernel
theorem dX8_slate_43 : decode cX8_slate 43 = .ok (.iload_n 3, 1) := by decide +kernel
theorem dX8_slate_44 : decode cX8_slate 44 = .ok (.iastore, 1) := by decide +kernel
theorem dX8_slate_45 : decode cX8_slate 45 = .ok (.aload_n 0, 1) := by decide +kernel
theorem dX8_slate_46 : decode cX8_slate 46 = .ok (.getfield 35, 3) := by decide +kernel
theorem dX8_slate_49 : decode cX8_slate 49 = .ok (.iload_n 1, 1) := by decide +kernel
theorem dX8_slate_50 : decode cX8_slate 50 = .ok (.iload_n 2, 1) := by decide +kernel
theorem dX8_slate_51 : decode cX8_slate 51 = .ok (.iastore, 1) := by decide +kernel
theorem dX8_slate_52 : decode cX8_slate 52 = .ok (.iconst 0, 1) := by decide +kernel
theorem dX8_slate_53 : decode cX8_slate 53 = .ok (.istore 4, 2) := by decide +kernel
theorem dX8_slate_55 : decode cX8_slate 55 = .ok (.iload 4, 2) := by decide +kernel
theorem dX8_slate_57 : decode cX8_slate 57 = .ok (.bipush 10, 2) := by decide +kernel
theorem dX8_slate_59 : decode cX8_slate 59 = .ok (.if_icmp .ge 35, 3) := by decide +kernel
theorem dX8_slate_62 : decode cX8_slate 62 = .ok (.aload_n 0, 1) := by decide +kernel
theorem dX8_slate_63 : decode cX8_slate 63 = .ok (.getfield 38, 3) := by decide +kernel
theorem dX8_slate_66 : decode cX8_slate 66 = .ok (.bipush 10, 2) := by decide +kernel
theorem dX8_slate_68 : decode cX8_slate 68 = .ok (.iload_n 1, 1) := by decide +kernel
theorem dX8_slate_69 : decode cX8_slate 69 = .ok (.imul, 1) := by decide +kernel
theorem dX8_slate_70 : decode cX8_slate 70 = .ok (.iload 4, 2) := by decide +kernel
theorem dX8_slate_72 : decode cX8_slate 72 = .ok (.iadd, 1) := by decide +kernel
theorem dX8_slate_73 : decode cX8_slate 73 = .ok (.lconst 0, 1) := by decide +kernel
theorem dX8_slate_74 : decode cX8_slate 74 = .ok (.lastore, 1) := by decide +kernel
theorem dX8_slate_75 : decode cX8_slate 75 = .ok (.aload_n 0, 1) := by decide +kernel
theorem dX8_slate_76 : decode cX8_slate 76 = .ok (.getfield 42, 3) := by decide +kernel
theorem dX8_slate_79 : decode cX8_slate 79 = .ok (.bipush 10, 2) := by decide +kernel
theorem dX8_slate_81 : decode cX8_slate 81 = .ok (.iload_n 1, 1) := by decide +kernel
theorem dX8_slate_82 : decode cX8_slate 82 = .ok (.imul, 1) := by decide +kernel
theorem dX8_slate_83 : decode cX8_slate 83 = .ok (.iload 4, 2) := by decide +kernel
theorem dX8_slate_85 : decode cX8_slate 85 = .ok (.iadd, 1) := by decide +kernel
theorem dX8_slate_86 : decode cX8_slate 86 = .ok (.iconst 0, 1) := by decide +kernel
theorem dX8_slate_87 : decode cX8_slate 87 = .ok (.iastore, 1) := by decide +kernel
theorem dX8_slate_88 : decode cX8_slate 88 = .ok (.iinc 4 1, 3) := by decide +kernel
theorem dX8_slate_91 : decode cX8_slate 91 = .ok (.goto (-36), 3) := by decide +kernel
theorem dX8_slate_94 : decode cX8_slate 94 = .ok (.iload_n 3, 1) := by decide +kernel
theorem dX8_slate_95 : decode cX8_slate 95 = .ok (.ireturn, 1) := by decide +kernel
set_option maxRecDepth 20000 in
theorem ggX8_noPlace_X8_in : GoodIn wsX8_noPlace wsX8_in := goodIn_r _ [6] (by decide +kernel) (by decide +kernel)
set_option maxRecDepth 20000 in
theorem gX8_noPlace_X8_in : GoodIn wsX8_noPlace (va_wsS RX8 86 yX8_in wsX8_in) := goodIn_app (goodIn_of _ (by decide +kernel)) ggX8_noPlace_X8_in
theorem dX8_noPlace_0 : decode cX8_noPlace 0 = .ok (.aload_n 0, 1) := by decide +kernel
theorem dX8_noPlace_1 : decode cX8_noPlace 1 = .ok (.getfield 32, 3) := by decide +kernel
theorem dX8_noPlace_4 : decode cX8_noPlace 4 = .ok (.iload_n 1, 1) := by decide +kernel
theorem dX8_noPlace_5 : decode cX8_noPlace 5 = .ok (.iaload, 1) := by decide +kernel
theorem dX8_noPlace_6 : decode cX8_noPlace 6 = .ok (.ifCond .ge 6, 3) := by decide +kernel
theorem dX8_noPlace_9 : decode cX8_noPlace 9 = .ok (.bipush (-11), 2) := by decide +kernel
theorem dX8_noPlace_11 : decode cX8_noPlace 11 = .ok (.ireturn, 1) := by decide +kernel
theorem dX8_noPlace_12 : decode cX8_noPlace 12 = .ok (.aload_n 0, 1) := by decide +kernel
theorem dX8_noPlace_13 : decode cX8_noPlace 13 = .ok (.getfield 35, 3) := by decide +kernel
theorem dX8_noPlace_16 : decode cX8_noPlace 16 = .ok (.iload_n 1, 1) := by decide +kernel
theorem dX8_noPlace_17 : decode cX8_noPlace 17 = .ok (.iaload, 1) := by decide +kernel
theorem dX8_noPlace_18 : decode cX8_noPlace 18 = .ok (.iload_n 2, 1) := by decide +kernel
theorem dX8_noPlace_19 : decode cX8_noPlace 19 = .ok (.if_icmp .eq 6, 3) := by decide +kernel
theorem dX8_noPlace_22 : decode cX8_noPlace 22 = .ok (.bipush (-12), 2) := by decide +kernel
theorem dX8_noPlace_24 : decode cX8_noPlace 24 = .ok (.ireturn, 1) := by decide +kernel
theorem dX8_noPlace_25 : decode cX8_noPlace 25 = .ok (.iload_n 3, 1) := by decide +kernel
theorem dX8_noPlace_26 : decode cX8_noPlace 26 = .ok (.i2l, 1) := by decide +kernel
theorem dX8_noPlace_27 : decode cX8_noPlace 27 = .ok (.lconst 0, 1) := by decide +kernel
theorem dX8_noPlace_28 : decode cX8_noPlace 28 = .ok (.aload_n 0, 1) := by decide +kernel
theorem dX8_noPlace_29 : decode cX8_noPlace 29 = .ok (.getfield 32, 3) := by decide +kernel
theorem dX8_noPlace_32 : decode cX8_noPlace 32 = .ok (.iload_n 1, 1) := by decide +kernel
theorem dX8_noPlace_33 : decode cX8_noPlace 33 = .ok (.iaload, 1) := by decide +kernel
theorem dX8_noPlace_34 : decode cX8_noPlace 34 = .ok (.iconst 1, 1) := by decide +kernel
theorem dX8_noPlace_35 : decode cX8_noPlace 35 = .ok (.isub, 1) := by decide +kernel
theorem dX8_noPlace_36 : decode cX8_noPlace 36 = .ok (.i2l, 1) := by decide +kernel
theorem dX8_noPlace_37 : decode cX8_noPlace 37 = .ok (.invokestatic 86, 3) := by decide +kernel
theorem dX8_noPlace_40 : decode cX8_noPlace 40 = .ok (.ifCond .eq 7, 3) := by decide +kernel
theorem dX8_noPlace_43 : decode cX8_noPlace 43 = .ok (.iconst 0, 1) := by decide +kernel
theorem dX8_noPlace_44 : decode cX8_noPlace 44 = .ok (.goto 5, 3) := by decide +kernel
theorem dX8_noPlace_47 : decode cX8_noPlace 47 = .ok (.bipush (-14), 2) := by decide +kernel
theorem dX8_noPlace_49 : decode cX8_noPlace 49 = .ok (.ireturn, 1) := by decide +kernel
set_option maxRecDepth 20000 in
theorem ggX8_layPart_X8_partOf : GoodIn wsX8_layPart wsX8_partOf := goodIn_r _ [6] (by decide +kernel) (by decide +kernel)
set_option maxRecDepth 20000 in
theorem gX8_layPart_X8_partOf : GoodIn wsX8_layPart (va_wsS RX8 196 yX8_partOf wsX8_partOf) := goodIn_app (goodIn_of _ (by decide +kernel)) ggX8_layPart_X8_partOf
theorem dX8_layPart_0 : decode cX8_layPart 0 = .ok (.aload_n 0, 1) := by decide +kernel
theorem dX8_layPart_1 : decode cX8_layPart 1 = .ok (.getfield 38, 3) := by decide +kernel
theorem dX8_layPart_4 : decode cX8_layPart 4 = .ok (.iload_n 1, 1) := by decide +kernel
theorem dX8_layPart_5 : decode cX8_layPart 5 = .ok (.lload_n 2, 1) := by decide +kernel
theorem dX8_layPart_6 : decode cX8_layPart 6 = .ok (.lload 4, 2) := by decide +kernel
theorem dX8_layPart_8 : decode cX8_layPart 8 = .ok (.iconst 0, 1) := by decide +kernel
theorem dX8_layPart_9 : decode cX8_layPart 9 = .ok (.invokestatic 196, 3) := by decide +kernel
theorem dX8_layPart_12 : decode cX8_layPart 12 = .ok (.i2l, 1) := by decide +kernel
theorem dX8_layPart_13 : decode cX8_layPart 13 = .ok (.lastore, 1) := by decide +kernel
theorem dX8_layPart_14 : decode cX8_layPart 14 = .ok (.aload_n 0, 1) := by decide +kernel
theorem dX8_layPart_15 : decode cX8_layPart 15 = .ok (.getfield 42, 3) := by decide +kernel
theorem dX8_layPart_18 : decode cX8_layPart 18 = .ok (.iload_n 1, 1) := by decide +kernel
theorem dX8_layPart_19 : decode cX8_layPart 19 = .ok (.lload_n 2, 1) := by decide +kernel
theorem dX8_layPart_20 : decode cX8_layPart 20 = .ok (.lload 4, 2) := by decide +kernel
theorem dX8_layPart_22 : decode cX8_layPart 22 = .ok (.iconst 1, 1) := by decide +kernel
theorem dX8_layPart_23 : decode cX8_layPart 23 = .ok (.invokestatic 196, 3) := by decide +kernel
theorem dX8_layPart_26 : decode cX8_layPart 26 = .ok (.iastore, 1) := by decide +kernel
theorem dX8_layPart_27 : decode cX8_layPart 27 = .ok (.return_, 1) := by decide +kernel
set_option maxRecDepth 20000 in
theorem ggX8_chalk_X8_isSlate : GoodIn wsX8_chalk wsX8_isSlate := goodIn_r _ [9, 10, 11, 12, 8, 13] (by decide +kernel) (by decide +kernel)
set_option maxRecDepth 20000 in
theorem gX8_chalk_X8_isSlate : GoodIn wsX8_chalk (va_wsS RX8 291 yX8_isSlate wsX8_isSlate) := goodIn_app (goodIn_of _ (by decide +kernel)) ggX8_chalk_X8_isSlate
set_option maxRecDepth 20000 in
theorem ggX8_chalk_X8_in : GoodIn wsX8_chalk wsX8_in := goodIn_r _ [13] (by decide +kernel) (by decide +kernel)
set_option maxRecDepth 20000 in
theorem gX8_chalk_X8_in : GoodIn wsX8_chalk (va_wsS RX8 86 yX8_in wsX8_in) := goodIn_app (goodIn_of _ (by decide +kernel)) ggX8_chalk_X8_in
