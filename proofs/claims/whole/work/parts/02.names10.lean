theorem dX8_nextToken_198 : decode cX8_nextToken 198 = .ok (.putfield 102, 3) := by decide +kernel
theorem dX8_nextToken_201 : decode cX8_nextToken 201 = .ok (.goto (-36), 3) := by decide +kernel
theorem dX8_nextToken_204 : decode cX8_nextToken 204 = .ok (.return_, 1) := by decide +kernel
theorem dX8_isWord_0 : decode cX8_isWord 0 = .ok (.aload_n 0, 1) := by decide +kernel
theorem dX8_isWord_1 : decode cX8_isWord 1 = .ok (.getfield 102, 3) := by decide +kernel
theorem dX8_isWord_4 : decode cX8_isWord 4 = .ok (.aload_n 0, 1) := by decide +kernel
theorem dX8_isWord_5 : decode cX8_isWord 5 = .ok (.getfield 105, 3) := by decide +kernel
theorem dX8_isWord_8 : decode cX8_isWord 8 = .ok (.isub, 1) := by decide +kernel
theorem dX8_isWord_9 : decode cX8_isWord 9 = .ok (.aload_n 1, 1) := by decide +kernel
theorem dX8_isWord_10 : decode cX8_isWord 10 = .ok (.arraylength, 1) := by decide +kernel
theorem dX8_isWord_11 : decode cX8_isWord 11 = .ok (.if_icmp .ne 7, 3) := by decide +kernel
theorem dX8_isWord_14 : decode cX8_isWord 14 = .ok (.iconst 1, 1) := by decide +kernel
theorem dX8_isWord_15 : decode cX8_isWord 15 = .ok (.goto 4, 3) := by decide +kernel
theorem dX8_isWord_18 : decode cX8_isWord 18 = .ok (.iconst 0, 1) := by decide +kernel
theorem dX8_isWord_19 : decode cX8_isWord 19 = .ok (.istore_n 2, 1) := by decide +kernel
theorem dX8_isWord_20 : decode cX8_isWord 20 = .ok (.iconst 0, 1) := by decide +kernel
theorem dX8_isWord_21 : decode cX8_isWord 21 = .ok (.istore_n 3, 1) := by decide +kernel
theorem dX8_isWord_22 : decode cX8_isWord 22 = .ok (.iload_n 3, 1) := by decide +kernel
theorem dX8_isWord_23 : decode cX8_isWord 23 = .ok (.aload_n 1, 1) := by decide +kernel
theorem dX8_isWord_24 : decode cX8_isWord 24 = .ok (.arraylength, 1) := by decide +kernel
theorem dX8_isWord_25 : decode cX8_isWord 25 = .ok (.if_icmp .ge 36, 3) := by decide +kernel
theorem dX8_isWord_28 : decode cX8_isWord 28 = .ok (.iload_n 2, 1) := by decide +kernel
theorem dX8_isWord_29 : decode cX8_isWord 29 = .ok (.ifCond .eq 32, 3) := by decide +kernel
theorem dX8_isWord_32 : decode cX8_isWord 32 = .ok (.aload_n 0, 1) := by decide +kernel
theorem dX8_isWord_33 : decode cX8_isWord 33 = .ok (.getfield 17, 3) := by decide +kernel
theorem dX8_isWord_36 : decode cX8_isWord 36 = .ok (.aload_n 0, 1) := by decide +kernel
theorem dX8_isWord_37 : decode cX8_isWord 37 = .ok (.getfield 105, 3) := by decide +kernel
theorem dX8_isWord_40 : decode cX8_isWord 40 = .ok (.iload_n 3, 1) := by decide +kernel
theorem dX8_isWord_41 : decode cX8_isWord 41 = .ok (.iadd, 1) := by decide +kernel
theorem dX8_isWord_42 : decode cX8_isWord 42 = .ok (.iaload, 1) := by decide +kernel
theorem dX8_isWord_43 : decode cX8_isWord 43 = .ok (.aload_n 1, 1) := by decide +kernel
theorem dX8_isWord_44 : decode cX8_isWord 44 = .ok (.iload_n 3, 1) := by decide +kernel
theorem dX8_isWord_45 : decode cX8_isWord 45 = .ok (.iaload, 1) := by decide +kernel
theorem dX8_isWord_46 : decode cX8_isWord 46 = .ok (.if_icmp .ne 7, 3) := by decide +kernel
theorem dX8_isWord_49 : decode cX8_isWord 49 = .ok (.iconst 1, 1) := by decide +kernel
theorem dX8_isWord_50 : decode cX8_isWord 50 = .ok (.goto 4, 3) := by decide +kernel
theorem dX8_isWord_53 : decode cX8_isWord 53 = .ok (.iconst 0, 1) := by decide +kernel
theorem dX8_isWord_54 : decode cX8_isWord 54 = .ok (.istore_n 2, 1) := by decide +kernel
theorem dX8_isWord_55 : decode cX8_isWord 55 = .ok (.iinc 3 1, 3) := by decide +kernel
theorem dX8_isWord_58 : decode cX8_isWord 58 = .ok (.goto (-36), 3) := by decide +kernel
theorem dX8_isWord_61 : decode cX8_isWord 61 = .ok (.iload_n 2, 1) := by decide +kernel
theorem dX8_isWord_62 : decode cX8_isWord 62 = .ok (.ireturn, 1) := by decide +kernel
set_option maxRecDepth 20000 in
theorem ggX8_number_X8_isDigit : GoodIn wsX8_number wsX8_isDigit := goodIn_r _ [8, 9, 10, 11, 12, 7, 13] (by decide +kernel) (by decide +kernel)
set_option maxRecDepth 20000 in
theorem gX8_number_X8_isDigit : GoodIn wsX8_number (va_wsS RX8 112 yX8_isDigit wsX8_isDigit) := goodIn_app (goodIn_of _ (by decide +kernel)) ggX8_number_X8_isDigit
set_option maxRecDepth 20000 in
theorem ggX8_number_X8_nextToken : GoodIn wsX8_number wsX8_nextToken := goodIn_r _ [17, 4, 1, 2, 3, 18, 19, 7, 20, 21, 22, 11, 12, 13, 5, 6, 8, 9, 10, 23, 24, 25, 26, 27, 28, 29, 30, 31, 32, 33, 34, 35, 36, 37, 38, 39, 40, 41, 42, 43, 44, 45, 46, 47, 48, 49, 50, 51, 52, 53, 54, 55, 56, 57, 58, 59] (by decide +kernel) (by decide +kernel)
set_option maxRecDepth 20000 in
theorem gX8_number_X8_nextToken : GoodIn wsX8_number (wsV RX8 115 RX8 yX8_nextToken wsX8_nextToken) := goodIn_app (goodIn_of _ (by decide +kernel)) ggX8_number_X8_nextToken
theorem dX8_number_0 : decode cX8_number 0 = .ok (.aload_n 0, 1) := by decide +kernel
theorem dX8_number_1 : decode cX8_number 1 = .ok (.getfield 105, 3) := by decide +kernel
theorem dX8_number_4 : decode cX8_number 4 = .ok (.aload_n 0, 1) := by decide +kernel
theorem dX8_number_5 : decode cX8_number 5 = .ok (.getfield 90, 3) := by decide +kernel
theorem dX8_number_8 : decode cX8_number 8 = .ok (.if_icmp .ge 51, 3) := by decide +kernel
theorem dX8_number_11 : decode cX8_number 11 = .ok (.aload_n 0, 1) := by decide +kernel
theorem dX8_number_12 : decode cX8_number 12 = .ok (.getfield 17, 3) := by decide +kernel
theorem dX8_number_15 : decode cX8_number 15 = .ok (.aload_n 0, 1) := by decide +kernel
theorem dX8_number_16 : decode cX8_number 16 = .ok (.getfield 105, 3) := by decide +kernel
theorem dX8_number_19 : decode cX8_number 19 = .ok (.iaload, 1) := by decide +kernel
theorem dX8_number_20 : decode cX8_number 20 = .ok (.invokestatic 112, 3) := by decide +kernel
theorem dX8_number_23 : decode cX8_number 23 = .ok (.ifCond .eq 36, 3) := by decide +kernel
theorem dX8_number_26 : decode cX8_number 26 = .ok (.aload_n 0, 1) := by decide +kernel
theorem dX8_number_27 : decode cX8_number 27 = .ok (.getfield 102, 3) := by decide +kernel
theorem dX8_number_30 : decode cX8_number 30 = .ok (.aload_n 0, 1) := by decide +kernel
theorem dX8_number_31 : decode cX8_number 31 = .ok (.getfield 105, 3) := by decide +kernel
theorem dX8_number_34 : decode cX8_number 34 = .ok (.isub, 1) := by decide +kernel
theorem dX8_number_35 : decode cX8_number 35 = .ok (.iconst 1, 1) := by decide +kernel
theorem dX8_number_36 : decode cX8_number 36 = .ok (.if_icmp .ne 23, 3) := by decide +kernel
theorem dX8_number_39 : decode cX8_number 39 = .ok (.aload_n 0, 1) := by decide +kernel
theorem dX8_number_40 : decode cX8_number 40 = .ok (.getfield 17, 3) := by decide +kernel
theorem dX8_number_43 : decode cX8_number 43 = .ok (.aload_n 0, 1) := by decide +kernel
theorem dX8_number_44 : decode cX8_number 44 = .ok (.getfield 105, 3) := by decide +kernel
theorem dX8_number_47 : decode cX8_number 47 = .ok (.iaload, 1) := by decide +kernel
theorem dX8_number_48 : decode cX8_number 48 = .ok (.bipush 48, 2) := by decide +kernel
theorem dX8_number_50 : decode cX8_number 50 = .ok (.isub, 1) := by decide +kernel
theorem dX8_number_51 : decode cX8_number 51 = .ok (.iload_n 1, 1) := by decide +kernel
theorem dX8_number_52 : decode cX8_number 52 = .ok (.if_icmp .ge 7, 3) := by decide +kernel
theorem dX8_number_55 : decode cX8_number 55 = .ok (.iconst 1, 1) := by decide +kernel
theorem dX8_number_56 : decode cX8_number 56 = .ok (.goto 4, 3) := by decide +kernel
theorem dX8_number_59 : decode cX8_number 59 = .ok (.iconst 0, 1) := by decide +kernel
theorem dX8_number_60 : decode cX8_number 60 = .ok (.istore_n 2, 1) := by decide +kernel
theorem dX8_number_61 : decode cX8_number 61 = .ok (.iload_n 2, 1) := by decide +kernel
theorem dX8_number_62 : decode cX8_number 62 = .ok (.ifCond .ne 5, 3) := by decide +kernel
theorem dX8_number_65 : decode cX8_number 65 = .ok (.iconst (-1), 1) := by decide +kernel
theorem dX8_number_66 : decode cX8_number 66 = .ok (.ireturn, 1) := by decide +kernel
theorem dX8_number_67 : decode cX8_number 67 = .ok (.aload_n 0, 1) := by decide +kernel
theorem dX8_number_68 : decode cX8_number 68 = .ok (.getfield 17, 3) := by decide +kernel
theorem dX8_number_71 : decode cX8_number 71 = .ok (.aload_n 0, 1) := by decide +kernel
theorem dX8_number_72 : decode cX8_number 72 = .ok (.getfield 105, 3) := by decide +kernel
theorem dX8_number_75 : decode cX8_number 75 = .ok (.iaload, 1) := by decide +kernel
theorem dX8_number_76 : decode cX8_number 76 = .ok (.bipush 48, 2) := by decide +kernel
theorem dX8_number_78 : decode cX8_number 78 = .ok (.isub, 1) := by decide +kernel
theorem dX8_number_79 : decode cX8_number 79 = .ok (.istore_n 3, 1) := by decide +kernel
theorem dX8_number_80 : decode cX8_number 80 = .ok (.aload_n 0, 1) := by decide +kernel
theorem dX8_number_81 : decode cX8_number 81 = .ok (.invokevirtual 115, 3) := by decide +kernel
theorem dX8_number_84 : decode cX8_number 84 = .ok (.iload_n 3, 1) := by decide +kernel
theorem dX8_number_85 : decode cX8_number 85 = .ok (.ireturn, 1) := by decide +kernel
set_option maxRecDepth 20000 in
theorem ggX8_facts_X8_isLetter : GoodIn wsX8_facts wsX8_isLetter := goodIn_r _ [9, 10, 11, 12, 13, 8, 14] (by decide +kernel) (by decide +kernel)
set_option maxRecDepth 20000 in
theorem gX8_facts_X8_isLetter : GoodIn wsX8_facts (va_wsS RX8 108 yX8_isLetter wsX8_isLetter) := goodIn_app (goodIn_of _ (by decide +kernel)) ggX8_facts_X8_isLetter
set_option maxRecDepth 20000 in
theorem ggX8_facts_X8_nextToken : GoodIn wsX8_facts wsX8_nextToken := goodIn_r _ [18, 4, 1, 2, 3, 6, 7, 8, 9, 10, 11, 12, 13, 14, 19, 20, 21, 22, 23, 24, 25, 26, 27, 28, 29, 30, 31, 32, 33, 34, 35, 36, 37, 38, 39, 40, 41, 42, 43, 44, 45, 46, 47, 48, 49, 50, 51, 52, 53, 54, 55, 56, 57, 58, 59, 60] (by decide +kernel) (by decide +kernel)
set_option maxRecDepth 20000 in
theorem gX8_facts_X8_nextToken : GoodIn wsX8_facts (wsV RX8 115 RX8 yX8_nextToken wsX8_nextToken) := goodIn_app (goodIn_of _ (by decide +kernel)) ggX8_facts_X8_nextToken
theorem dX8_facts_0 : decode cX8_facts 0 = .ok (.aload_n 0, 1) := by decide +kernel
theorem dX8_facts_1 : decode cX8_facts 1 = .ok (.getfield 105, 3) := by decide +kernel
theorem dX8_facts_4 : decode cX8_facts 4 = .ok (.aload_n 0, 1) := by decide +kernel
theorem dX8_facts_5 : decode cX8_facts 5 = .ok (.getfield 90, 3) := by decide +kernel
theorem dX8_facts_8 : decode cX8_facts 8 = .ok (.if_icmp .eq 18, 3) := by decide +kernel
theorem dX8_facts_11 : decode cX8_facts 11 = .ok (.aload_n 0, 1) := by decide +kernel
theorem dX8_facts_12 : decode cX8_facts 12 = .ok (.getfield 17, 3) := by decide +kernel
theorem dX8_facts_15 : decode cX8_facts 15 = .ok (.aload_n 0, 1) := by decide +kernel
theorem dX8_facts_16 : decode cX8_facts 16 = .ok (.getfield 105, 3) := by decide +kernel
theorem dX8_facts_19 : decode cX8_facts 19 = .ok (.iaload, 1) := by decide +kernel
theorem dX8_facts_20 : decode cX8_facts 20 = .ok (.invokestatic 108, 3) := by decide +kernel
theorem dX8_facts_23 : decode cX8_facts 23 = .ok (.ifCond .ne 5, 3) := by decide +kernel
theorem dX8_facts_26 : decode cX8_facts 26 = .ok (.iconst 0, 1) := by decide +kernel
theorem dX8_facts_27 : decode cX8_facts 27 = .ok (.ireturn, 1) := by decide +kernel
theorem dX8_facts_28 : decode cX8_facts 28 = .ok (.iconst 0, 1) := by decide +kernel
theorem dX8_facts_29 : decode cX8_facts 29 = .ok (.istore_n 1, 1) := by decide +kernel
theorem dX8_facts_30 : decode cX8_facts 30 = .ok (.iconst 1, 1) := by decide +kernel
theorem dX8_facts_31 : decode cX8_facts 31 = .ok (.istore_n 2, 1) := by decide +kernel
theorem dX8_facts_32 : decode cX8_facts 32 = .ok (.bipush 96, 2) := by decide +kernel
theorem dX8_facts_34 : decode cX8_facts 34 = .ok (.istore_n 3, 1) := by decide +kernel
theorem dX8_facts_35 : decode cX8_facts 35 = .ok (.aload_n 0, 1) := by decide +kernel
theorem dX8_facts_36 : decode cX8_facts 36 = .ok (.getfield 105, 3) := by decide +kernel
theorem dX8_facts_39 : decode cX8_facts 39 = .ok (.istore 4, 2) := by decide +kernel
theorem dX8_facts_41 : decode cX8_facts 41 = .ok (.iload 4, 2) := by decide +kernel
theorem dX8_facts_43 : decode cX8_facts 43 = .ok (.aload_n 0, 1) := by decide +kernel
theorem dX8_facts_44 : decode cX8_facts 44 = .ok (.getfield 102, 3) := by decide +kernel
theorem dX8_facts_47 : decode cX8_facts 47 = .ok (.if_icmp .ge 78, 3) := by decide +kernel
theorem dX8_facts_50 : decode cX8_facts 50 = .ok (.iload_n 2, 1) := by decide +kernel
theorem dX8_facts_51 : decode cX8_facts 51 = .ok (.ifCond .eq 74, 3) := by decide +kernel
theorem dX8_facts_54 : decode cX8_facts 54 = .ok (.aload_n 0, 1) := by decide +kernel
theorem dX8_facts_55 : decode cX8_facts 55 = .ok (.getfield 17, 3) := by decide +kernel
theorem dX8_facts_58 : decode cX8_facts 58 = .ok (.iload 4, 2) := by decide +kernel
theorem dX8_facts_60 : decode cX8_facts 60 = .ok (.iaload, 1) := by decide +kernel
theorem dX8_facts_61 : decode cX8_facts 61 = .ok (.iload_n 3, 1) := by decide +kernel
theorem dX8_facts_62 : decode cX8_facts 62 = .ok (.if_icmp .le 24, 3) := by decide +kernel
theorem dX8_facts_65 : decode cX8_facts 65 = .ok (.aload_n 0, 1) := by decide +kernel
theorem dX8_facts_66 : decode cX8_facts 66 = .ok (.getfield 17, 3) := by decide +kernel
theorem dX8_facts_69 : decode cX8_facts 69 = .ok (.iload 4, 2) := by decide +kernel
theorem dX8_facts_71 : decode cX8_facts 71 = .ok (.iaload, 1) := by decide +kernel
theorem dX8_facts_72 : decode cX8_facts 72 = .ok (.bipush 97, 2) := by decide +kernel
theorem dX8_facts_74 : decode cX8_facts 74 = .ok (.aload_n 0, 1) := by decide +kernel
theorem dX8_facts_75 : decode cX8_facts 75 = .ok (.getfield 118, 3) := by decide +kernel
theorem dX8_facts_78 : decode cX8_facts 78 = .ok (.iadd, 1) := by decide +kernel
theorem dX8_facts_79 : decode cX8_facts 79 = .ok (.if_icmp .ge 7, 3) := by decide +kernel
theorem dX8_facts_82 : decode cX8_facts 82 = .ok (.iconst 1, 1) := by decide +kernel
theorem dX8_facts_83 : decode cX8_facts 83 = .ok (.goto 4, 3) := by decide +kernel
theorem dX8_facts_86 : decode cX8_facts 86 = .ok (.iconst 0, 1) := by decide +kernel
theorem dX8_facts_87 : decode cX8_facts 87 = .ok (.istore_n 2, 1) := by decide +kernel
theorem dX8_facts_88 : decode cX8_facts 88 = .ok (.aload_n 0, 1) := by decide +kernel
theorem dX8_facts_89 : decode cX8_facts 89 = .ok (.getfield 17, 3) := by decide +kernel
theorem dX8_facts_92 : decode cX8_facts 92 = .ok (.iload 4, 2) := by decide +kernel
theorem dX8_facts_94 : decode cX8_facts 94 = .ok (.iaload, 1) := by decide +kernel
theorem dX8_facts_95 : decode cX8_facts 95 = .ok (.istore_n 3, 1) := by decide +kernel
theorem dX8_facts_96 : decode cX8_facts 96 = .ok (.iload_n 1, 1) := by decide +kernel
theorem dX8_facts_97 : decode cX8_facts 97 = .ok (.iload_n 2, 1) := by decide +kernel
theorem dX8_facts_98 : decode cX8_facts 98 = .ok (.ifCond .eq 18, 3) := by decide +kernel
theorem dX8_facts_101 : decode cX8_facts 101 = .ok (.iconst 1, 1) := by decide +kernel
theorem dX8_facts_102 : decode cX8_facts 102 = .ok (.aload_n 0, 1) := by decide +kernel
theorem dX8_facts_103 : decode cX8_facts 103 = .ok (.getfield 17, 3) := by decide +kernel
theorem dX8_facts_106 : decode cX8_facts 106 = .ok (.iload 4, 2) := by decide +kernel
theorem dX8_facts_108 : decode cX8_facts 108 = .ok (.iaload, 1) := by decide +kernel
theorem dX8_facts_109 : decode cX8_facts 109 = .ok (.bipush 97, 2) := by decide +kernel
theorem dX8_facts_111 : decode cX8_facts 111 = .ok (.isub, 1) := by decide +kernel
theorem dX8_facts_112 : decode cX8_facts 112 = .ok (.ishl, 1) := by decide +kernel
theorem dX8_facts_113 : decode cX8_facts 113 = .ok (.goto 4, 3) := by decide +kernel
theorem dX8_facts_116 : decode cX8_facts 116 = .ok (.iconst 0, 1) := by decide +kernel
theorem dX8_facts_117 : decode cX8_facts 117 = .ok (.ior, 1) := by decide +kernel
theorem dX8_facts_118 : decode cX8_facts 118 = .ok (.istore_n 1, 1) := by decide +kernel
theorem dX8_facts_119 : decode cX8_facts 119 = .ok (.iinc 4 1, 3) := by decide +kernel
theorem dX8_facts_122 : decode cX8_facts 122 = .ok (.goto (-81), 3) := by decide +kernel
theorem dX8_facts_125 : decode cX8_facts 125 = .ok (.iload_n 2, 1) := by decide +kernel
theorem dX8_facts_126 : decode cX8_facts 126 = .ok (.ifCond .ne 5, 3) := by decide +kernel
theorem dX8_facts_129 : decode cX8_facts 129 = .ok (.iconst (-1), 1) := by decide +kernel
theorem dX8_facts_130 : decode cX8_facts 130 = .ok (.ireturn, 1) := by decide +kernel
theorem dX8_facts_131 : decode cX8_facts 131 = .ok (.aload_n 0, 1) := by decide +kernel
theorem dX8_facts_132 : decode cX8_facts 132 = .ok (.invokevirtual 115, 3) := by decide +kernel
theorem dX8_facts_135 : decode cX8_facts 135 = .ok (.iload_n 1, 1) := by decide +kernel
theorem dX8_facts_136 : decode cX8_facts 136 = .ok (.ireturn, 1) := by decide +kernel
set_option maxRecDepth 20000 in
theorem ggX8_allOf_X8_has : GoodIn wsX8_allOf wsX8_has := goodIn_r _ [5] (by decide +kernel) (by decide +kernel)
set_option maxRecDepth 20000 in
theorem gX8_allOf_X8_has : GoodIn wsX8_allOf (va_wsS RX8 121 yX8_has wsX8_has) := goodIn_app (goodIn_of _ (by decide +kernel)) ggX8_allOf_X8_has
theorem dX8_allOf_0 : decode cX8_allOf 0 = .ok (.iload_n 2, 1) := by decide +kernel
theorem dX8_allOf_1 : decode cX8_allOf 1 = .ok (.istore_n 3, 1) := by decide +kernel
theorem dX8_allOf_2 : decode cX8_allOf 2 = .ok (.iconst 0, 1) := by decide +kernel
theorem dX8_allOf_3 : decode cX8_allOf 3 = .ok (.istore 4, 2) := by decide +kernel
theorem dX8_allOf_5 : decode cX8_allOf 5 = .ok (.iload 4, 2) := by decide +kernel
theorem dX8_allOf_7 : decode cX8_allOf 7 = .ok (.bipush 12, 2) := by decide +kernel
theorem dX8_allOf_9 : decode cX8_allOf 9 = .ok (.if_icmp .ge 37, 3) := by decide +kernel
theorem dX8_allOf_12 : decode cX8_allOf 12 = .ok (.iload_n 3, 1) := by decide +kernel
theorem dX8_allOf_13 : decode cX8_allOf 13 = .ok (.iload_n 2, 1) := by decide +kernel
theorem dX8_allOf_14 : decode cX8_allOf 14 = .ok (.iload 4, 2) := by decide +kernel
theorem dX8_allOf_16 : decode cX8_allOf 16 = .ok (.invokestatic 121, 3) := by decide +kernel
theorem dX8_allOf_19 : decode cX8_allOf 19 = .ok (.ifCond .eq 18, 3) := by decide +kernel
theorem dX8_allOf_22 : decode cX8_allOf 22 = .ok (.aload_n 0, 1) := by decide +kernel
theorem dX8_allOf_23 : decode cX8_allOf 23 = .ok (.getfield 7, 3) := by decide +kernel
theorem dX8_allOf_26 : decode cX8_allOf 26 = .ok (.iload_n 1, 1) := by decide +kernel
theorem dX8_allOf_27 : decode cX8_allOf 27 = .ok (.bipush 36, 2) := by decide +kernel
theorem dX8_allOf_29 : decode cX8_allOf 29 = .ok (.iadd, 1) := by decide +kernel
theorem dX8_allOf_30 : decode cX8_allOf 30 = .ok (.iload 4, 2) := by decide +kernel
theorem dX8_allOf_32 : decode cX8_allOf 32 = .ok (.iadd, 1) := by decide +kernel
theorem dX8_allOf_33 : decode cX8_allOf 33 = .ok (.iaload, 1) := by decide +kernel
theorem dX8_allOf_34 : decode cX8_allOf 34 = .ok (.goto 4, 3) := by decide +kernel
theorem dX8_allOf_37 : decode cX8_allOf 37 = .ok (.iconst 0, 1) := by decide +kernel
theorem dX8_allOf_38 : decode cX8_allOf 38 = .ok (.ior, 1) := by decide +kernel
theorem dX8_allOf_39 : decode cX8_allOf 39 = .ok (.istore_n 3, 1) := by decide +kernel
theorem dX8_allOf_40 : decode cX8_allOf 40 = .ok (.iinc 4 1, 3) := by decide +kernel
theorem dX8_allOf_43 : decode cX8_allOf 43 = .ok (.goto (-38), 3) := by decide +kernel
theorem dX8_allOf_46 : decode cX8_allOf 46 = .ok (.iload_n 3, 1) := by decide +kernel
theorem dX8_allOf_47 : decode cX8_allOf 47 = .ok (.ireturn, 1) := by decide +kernel
set_option maxRecDepth 20000 in
theorem ggX8_readsFact_X8_nextToken : GoodIn wsX8_readsFact wsX8_nextToken := goodIn_r _ [8, 9, 10, 11, 12, 13, 14, 7, 15, 16, 17, 18, 19, 20, 21, 22, 23, 24, 25, 37, 38, 39, 40, 41, 42, 43, 44, 45, 46, 47, 48, 49, 50, 51, 52, 53, 54, 55, 56, 57, 58, 59, 60, 61, 62, 63, 64, 65, 66, 67, 68, 69, 70, 71, 72, 73] (by decide +kernel) (by decide +kernel)
set_option maxRecDepth 20000 in
theorem gX8_readsFact_X8_nextToken : GoodIn wsX8_readsFact (wsV RX8 115 RX8 yX8_nextToken wsX8_nextToken) := goodIn_app (goodIn_of _ (by decide +kernel)) ggX8_readsFact_X8_nextToken
set_option maxRecDepth 20000 in
theorem ggX8_readsFact_X8_facts : GoodIn wsX8_readsFact wsX8_facts := goodIn_r _ [29, 10, 11, 12, 9, 1, 13, 14, 7, 15, 16, 17, 18, 19, 20, 4, 5, 6, 8, 21, 22, 23, 24, 25, 37, 38, 39, 40, 41, 42, 43, 44, 45, 46, 47, 48, 49, 50, 51, 52, 53, 54, 55, 56, 57, 58, 59, 60, 61, 62, 63, 64, 65, 66, 67, 68, 69, 70, 71, 72, 73] (by decide +kernel) (by decide +kernel)
set_option maxRecDepth 20000 in
theorem gX8_readsFact_X8_facts : GoodIn wsX8_readsFact (wsV RX8 125 RX8 yX8_facts wsX8_facts) := goodIn_app (goodIn_of _ (by decide +kernel)) ggX8_readsFact_X8_facts
set_option maxRecDepth 20000 in
theorem ggX8_readsFact_X8_allOf : GoodIn wsX8_readsFact wsX8_allOf := goodIn_r _ [33, 3, 34, 35, 7, 36, 37, 38, 39, 40, 41, 42, 43, 44, 45, 46, 47, 48, 49, 50, 51, 52, 53, 54, 55, 56, 57, 58, 59, 60, 61, 62, 63, 64, 65, 66, 67, 68, 69, 70, 71, 72, 73] (by decide +kernel) (by decide +kernel)
set_option maxRecDepth 20000 in
theorem gX8_readsFact_X8_allOf : GoodIn wsX8_readsFact (wsV RX8 133 RX8 yX8_allOf wsX8_allOf) := goodIn_app (goodIn_of _ (by decide +kernel)) ggX8_readsFact_X8_allOf
theorem dX8_readsFact_0 : decode cX8_readsFact 0 = .ok (.aload_n 0, 1) := by decide +kernel
theorem dX8_readsFact_1 : decode cX8_readsFact 1 = .ok (.getfield 118, 3) := by decide +kernel
theorem dX8_readsFact_4 : decode cX8_readsFact 4 = .ok (.bipush 12, 2) := by decide +kernel
theorem dX8_readsFact_6 : decode cX8_readsFact 6 = .ok (.if_icmp .ne 5, 3) := by decide +kernel
theorem dX8_readsFact_9 : decode cX8_readsFact 9 = .ok (.iconst 0, 1) := by decide +kernel
theorem dX8_readsFact_10 : decode cX8_readsFact 10 = .ok (.ireturn, 1) := by decide +kernel
theorem dX8_readsFact_11 : decode cX8_readsFact 11 = .ok (.aload_n 0, 1) := by decide +kernel
theorem dX8_readsFact_12 : decode cX8_readsFact 12 = .ok (.invokevirtual 115, 3) := by decide +kernel
theorem dX8_readsFact_15 : decode cX8_readsFact 15 = .ok (.aload_n 0, 1) := by decide +kernel
theorem dX8_readsFact_16 : decode cX8_readsFact 16 = .ok (.invokevirtual 125, 3) := by decide +kernel
theorem dX8_readsFact_19 : decode cX8_readsFact 19 = .ok (.istore_n 1, 1) := by decide +kernel
theorem dX8_readsFact_20 : decode cX8_readsFact 20 = .ok (.iload_n 1, 1) := by decide +kernel
theorem dX8_readsFact_21 : decode cX8_readsFact 21 = .ok (.iconst (-1), 1) := by decide +kernel
theorem dX8_readsFact_22 : decode cX8_readsFact 22 = .ok (.if_icmp .ne 5, 3) := by decide +kernel
theorem dX8_readsFact_25 : decode cX8_readsFact 25 = .ok (.iconst 0, 1) := by decide +kernel
theorem dX8_readsFact_26 : decode cX8_readsFact 26 = .ok (.ireturn, 1) := by decide +kernel
theorem dX8_readsFact_27 : decode cX8_readsFact 27 = .ok (.aload_n 0, 1) := by decide +kernel
theorem dX8_readsFact_28 : decode cX8_readsFact 28 = .ok (.getfield 129, 3) := by decide +kernel
theorem dX8_readsFact_31 : decode cX8_readsFact 31 = .ok (.ifCond .eq 53, 3) := by decide +kernel
theorem dX8_readsFact_34 : decode cX8_readsFact 34 = .ok (.aload_n 0, 1) := by decide +kernel
theorem dX8_readsFact_35 : decode cX8_readsFact 35 = .ok (.getfield 7, 3) := by decide +kernel
theorem dX8_readsFact_38 : decode cX8_readsFact 38 = .ok (.bipush 72, 2) := by decide +kernel
theorem dX8_readsFact_40 : decode cX8_readsFact 40 = .ok (.aload_n 0, 1) := by decide +kernel
theorem dX8_readsFact_41 : decode cX8_readsFact 41 = .ok (.getfield 118, 3) := by decide +kernel
theorem dX8_readsFact_44 : decode cX8_readsFact 44 = .ok (.iadd, 1) := by decide +kernel
theorem dX8_readsFact_45 : decode cX8_readsFact 45 = .ok (.iload_n 1, 1) := by decide +kernel
theorem dX8_readsFact_46 : decode cX8_readsFact 46 = .ok (.iastore, 1) := by decide +kernel
theorem dX8_readsFact_47 : decode cX8_readsFact 47 = .ok (.aload_n 0, 1) := by decide +kernel
theorem dX8_readsFact_48 : decode cX8_readsFact 48 = .ok (.getfield 7, 3) := by decide +kernel
theorem dX8_readsFact_51 : decode cX8_readsFact 51 = .ok (.bipush 84, 2) := by decide +kernel
theorem dX8_readsFact_53 : decode cX8_readsFact 53 = .ok (.aload_n 0, 1) := by decide +kernel
theorem dX8_readsFact_54 : decode cX8_readsFact 54 = .ok (.getfield 118, 3) := by decide +kernel
theorem dX8_readsFact_57 : decode cX8_readsFact 57 = .ok (.iadd, 1) := by decide +kernel
theorem dX8_readsFact_58 : decode cX8_readsFact 58 = .ok (.aload_n 0, 1) := by decide +kernel
theorem dX8_readsFact_59 : decode cX8_readsFact 59 = .ok (.bipush 48, 2) := by decide +kernel
theorem dX8_readsFact_61 : decode cX8_readsFact 61 = .ok (.iload_n 1, 1) := by decide +kernel
theorem dX8_readsFact_62 : decode cX8_readsFact 62 = .ok (.invokevirtual 133, 3) := by decide +kernel
theorem dX8_readsFact_65 : decode cX8_readsFact 65 = .ok (.iconst 1, 1) := by decide +kernel
theorem dX8_readsFact_66 : decode cX8_readsFact 66 = .ok (.aload_n 0, 1) := by decide +kernel
theorem dX8_readsFact_67 : decode cX8_readsFact 67 = .ok (.getfield 118, 3) := by decide +kernel
theorem dX8_readsFact_70 : decode cX8_readsFact 70 = .ok (.ishl, 1) := by decide +kernel
theorem dX8_readsFact_71 : decode cX8_readsFact 71 = .ok (.ior, 1) := by decide +kernel
theorem dX8_readsFact_72 : decode cX8_readsFact 72 = .ok (.iastore, 1) := by decide +kernel
theorem dX8_readsFact_73 : decode cX8_readsFact 73 = .ok (.aload_n 0, 1) := by decide +kernel
theorem dX8_readsFact_74 : decode cX8_readsFact 74 = .ok (.getfield 7, 3) := by decide +kernel
theorem dX8_readsFact_77 : decode cX8_readsFact 77 = .ok (.bipush 71, 2) := by decide +kernel
theorem dX8_readsFact_79 : decode cX8_readsFact 79 = .ok (.dup2, 1) := by decide +kernel
theorem dX8_readsFact_80 : decode cX8_readsFact 80 = .ok (.iaload, 1) := by decide +kernel
theorem dX8_readsFact_81 : decode cX8_readsFact 81 = .ok (.iconst 1, 1) := by decide +kernel
theorem dX8_readsFact_82 : decode cX8_readsFact 82 = .ok (.iadd, 1) := by decide +kernel
theorem dX8_readsFact_83 : decode cX8_readsFact 83 = .ok (.iastore, 1) := by decide +kernel
theorem dX8_readsFact_84 : decode cX8_readsFact 84 = .ok (.aload_n 0, 1) := by decide +kernel
theorem dX8_readsFact_85 : decode cX8_readsFact 85 = .ok (.dup, 1) := by decide +kernel
theorem dX8_readsFact_86 : decode cX8_readsFact 86 = .ok (.getfield 118, 3) := by decide +kernel
theorem dX8_readsFact_89 : decode cX8_readsFact 89 = .ok (.iconst 1, 1) := by decide +kernel
theorem dX8_readsFact_90 : decode cX8_readsFact 90 = .ok (.iadd, 1) := by decide +kernel
theorem dX8_readsFact_91 : decode cX8_readsFact 91 = .ok (.putfield 118, 3) := by decide +kernel
theorem dX8_readsFact_94 : decode cX8_readsFact 94 = .ok (.iconst 1, 1) := by decide +kernel
theorem dX8_readsFact_95 : decode cX8_readsFact 95 = .ok (.ireturn, 1) := by decide +kernel
set_option maxRecDepth 20000 in
theorem ggX8_readsMember_X8_nextToken : GoodIn wsX8_readsMember wsX8_nextToken := goodIn_r _ [8, 9, 10, 11, 12, 13, 14, 7, 15, 16, 17, 18, 19, 20, 21, 22, 23, 24, 25, 38, 39, 40, 41, 42, 43, 44, 45, 46, 47, 48, 49, 50, 51, 52, 53, 54, 55, 56, 57, 58, 59, 60, 61, 62, 63, 64, 65, 66, 67, 68, 69, 70, 71, 72, 73, 74] (by decide +kernel) (by decide +kernel)
set_option maxRecDepth 20000 in
theorem gX8_readsMember_X8_nextToken : GoodIn wsX8_readsMember (wsV RX8 115 RX8 yX8_nextToken wsX8_nextToken) := goodIn_app (goodIn_of _ (by decide +kernel)) ggX8_readsMember_X8_nextToken
set_option maxRecDepth 20000 in
theorem ggX8_readsMember_X8_facts : GoodIn wsX8_readsMember wsX8_facts := goodIn_r _ [29, 10, 11, 12, 9, 30, 13, 14, 7, 15, 16, 17, 18, 19, 20, 4, 5, 6, 8, 21, 22, 23, 24, 25, 38, 39, 40, 41, 42, 43, 44, 45, 46, 47, 48, 49, 50, 51, 52, 53, 54, 55, 56, 57, 58, 59, 60, 61, 62, 63, 64, 65, 66, 67, 68, 69, 70, 71, 72, 73, 74] (by decide +kernel) (by decide +kernel)
set_option maxRecDepth 20000 in
theorem gX8_readsMember_X8_facts : GoodIn wsX8_readsMember (wsV RX8 125 RX8 yX8_facts wsX8_facts) := goodIn_app (goodIn_of _ (by decide +kernel)) ggX8_readsMember_X8_facts
set_option maxRecDepth 20000 in
theorem ggX8_readsMember_X8_allOf : GoodIn wsX8_readsMember wsX8_allOf := goodIn_r _ [34, 3, 35, 36, 7, 37, 38, 39, 40, 41, 42, 43, 44, 45, 46, 47, 48, 49, 50, 51, 52, 53, 54, 55, 56, 57, 58, 59, 60, 61, 62, 63, 64, 65, 66, 67, 68, 69, 70, 71, 72, 73, 74] (by decide +kernel) (by decide +kernel)
set_option maxRecDepth 20000 in
theorem gX8_readsMember_X8_allOf : GoodIn wsX8_readsMember (wsV RX8 133 RX8 yX8_allOf wsX8_allOf) := goodIn_app (goodIn_of _ (by decide +kernel)) ggX8_readsMember_X8_allOf
theorem dX8_readsMember_0 : decode cX8_readsMember 0 = .ok (.aload_n 0, 1) := by decide +kernel
theorem dX8_readsMember_1 : decode cX8_readsMember 1 = .ok (.getfield 137, 3) := by decide +kernel
theorem dX8_readsMember_4 : decode cX8_readsMember 4 = .ok (.iconst 4, 1) := by decide +kernel
theorem dX8_readsMember_5 : decode cX8_readsMember 5 = .ok (.if_icmp .ne 5, 3) := by decide +kernel
theorem dX8_readsMember_8 : decode cX8_readsMember 8 = .ok (.iconst 0, 1) := by decide +kernel
theorem dX8_readsMember_9 : decode cX8_readsMember 9 = .ok (.ireturn, 1) := by decide +kernel
theorem dX8_readsMember_10 : decode cX8_readsMember 10 = .ok (.aload_n 0, 1) := by decide +kernel
theorem dX8_readsMember_11 : decode cX8_readsMember 11 = .ok (.invokevirtual 115, 3) := by decide +kernel
theorem dX8_readsMember_14 : decode cX8_readsMember 14 = .ok (.aload_n 0, 1) := by decide +kernel
theorem dX8_readsMember_15 : decode cX8_readsMember 15 = .ok (.invokevirtual 125, 3) := by decide +kernel
theorem dX8_readsMember_18 : decode cX8_readsMember 18 = .ok (.istore_n 1, 1) := by decide +kernel
theorem dX8_readsMember_19 : decode cX8_readsMember 19 = .ok (.iload_n 1, 1) := by decide +kernel
theorem dX8_readsMember_20 : decode cX8_readsMember 20 = .ok (.iconst (-1), 1) := by decide +kernel
theorem dX8_readsMember_21 : decode cX8_readsMember 21 = .ok (.if_icmp .ne 5, 3) := by decide +kernel
theorem dX8_readsMember_24 : decode cX8_readsMember 24 = .ok (.iconst 0, 1) := by decide +kernel
theorem dX8_readsMember_25 : decode cX8_readsMember 25 = .ok (.ireturn, 1) := by decide +kernel
theorem dX8_readsMember_26 : decode cX8_readsMember 26 = .ok (.aload_n 0, 1) := by decide +kernel
theorem dX8_readsMember_27 : decode cX8_readsMember 27 = .ok (.getfield 129, 3) := by decide +kernel
theorem dX8_readsMember_30 : decode cX8_readsMember 30 = .ok (.ifCond .eq 33, 3) := by decide +kernel
theorem dX8_readsMember_33 : decode cX8_readsMember 33 = .ok (.aload_n 0, 1) := by decide +kernel
theorem dX8_readsMember_34 : decode cX8_readsMember 34 = .ok (.getfield 7, 3) := by decide +kernel
theorem dX8_readsMember_37 : decode cX8_readsMember 37 = .ok (.bipush 48, 2) := by decide +kernel
theorem dX8_readsMember_39 : decode cX8_readsMember 39 = .ok (.aload_n 0, 1) := by decide +kernel
theorem dX8_readsMember_40 : decode cX8_readsMember 40 = .ok (.getfield 137, 3) := by decide +kernel
theorem dX8_readsMember_43 : decode cX8_readsMember 43 = .ok (.iadd, 1) := by decide +kernel
theorem dX8_readsMember_44 : decode cX8_readsMember 44 = .ok (.aload_n 0, 1) := by decide +kernel
theorem dX8_readsMember_45 : decode cX8_readsMember 45 = .ok (.bipush 48, 2) := by decide +kernel
theorem dX8_readsMember_47 : decode cX8_readsMember 47 = .ok (.iload_n 1, 1) := by decide +kernel
theorem dX8_readsMember_48 : decode cX8_readsMember 48 = .ok (.invokevirtual 133, 3) := by decide +kernel
theorem dX8_readsMember_51 : decode cX8_readsMember 51 = .ok (.iastore, 1) := by decide +kernel
theorem dX8_readsMember_52 : decode cX8_readsMember 52 = .ok (.aload_n 0, 1) := by decide +kernel
theorem dX8_readsMember_53 : decode cX8_readsMember 53 = .ok (.getfield 7, 3) := by decide +kernel
theorem dX8_readsMember_56 : decode cX8_readsMember 56 = .ok (.bipush 64, 2) := by decide +kernel
theorem dX8_readsMember_58 : decode cX8_readsMember 58 = .ok (.dup2, 1) := by decide +kernel
theorem dX8_readsMember_59 : decode cX8_readsMember 59 = .ok (.iaload, 1) := by decide +kernel
theorem dX8_readsMember_60 : decode cX8_readsMember 60 = .ok (.iconst 1, 1) := by decide +kernel
theorem dX8_readsMember_61 : decode cX8_readsMember 61 = .ok (.iadd, 1) := by decide +kernel
theorem dX8_readsMember_62 : decode cX8_readsMember 62 = .ok (.iastore, 1) := by decide +kernel
theorem dX8_readsMember_63 : decode cX8_readsMember 63 = .ok (.aload_n 0, 1) := by decide +kernel
theorem dX8_readsMember_64 : decode cX8_readsMember 64 = .ok (.dup, 1) := by decide +kernel
theorem dX8_readsMember_65 : decode cX8_readsMember 65 = .ok (.getfield 137, 3) := by decide +kernel
theorem dX8_readsMember_68 : decode cX8_readsMember 68 = .ok (.iconst 1, 1) := by decide +kernel
theorem dX8_readsMember_69 : decode cX8_readsMember 69 = .ok (.iadd, 1) := by decide +kernel
theorem dX8_readsMember_70 : decode cX8_readsMember 70 = .ok (.putfield 137, 3) := by decide +kernel
theorem dX8_readsMember_73 : decode cX8_readsMember 73 = .ok (.iconst 1, 1) := by decide +kernel
theorem dX8_readsMember_74 : decode cX8_readsMember 74 = .ok (.ireturn, 1) := by decide +kernel
set_option maxRecDepth 20000 in
theorem ggX8_kindHere_X8_isWord : GoodIn wsX8_kindHere wsX8_isWord := goodIn_r _ [10, 11, 12, 13, 14, 15, 16, 17, 18, 19, 20, 21, 22, 23, 24, 25, 26, 27, 28, 29, 30, 31, 32, 33, 34, 35, 36, 37, 38, 39, 40, 41, 42, 43, 44, 45, 46, 47, 48, 49, 50] (by decide +kernel) (by decide +kernel)
set_option maxRecDepth 20000 in
theorem gX8_kindHere_X8_isWord : GoodIn wsX8_kindHere (wsV RX8 140 RX8 yX8_isWord wsX8_isWord) := goodIn_app (goodIn_of _ (by decide +kernel)) ggX8_kindHere_X8_isWord
theorem dX8_kindHere_0 : decode cX8_kindHere 0 = .ok (.aload_n 0, 1) := by decide +kernel
theorem dX8_kindHere_1 : decode cX8_kindHere 1 = .ok (.aload_n 0, 1) := by decide +kernel
theorem dX8_kindHere_2 : decode cX8_kindHere 2 = .ok (.getfield 54, 3) := by decide +kernel
theorem dX8_kindHere_5 : decode cX8_kindHere 5 = .ok (.invokevirtual 140, 3) := by decide +kernel
theorem dX8_kindHere_8 : decode cX8_kindHere 8 = .ok (.ifCond .eq 7, 3) := by decide +kernel
theorem dX8_kindHere_11 : decode cX8_kindHere 11 = .ok (.iconst 0, 1) := by decide +kernel
theorem dX8_kindHere_12 : decode cX8_kindHere 12 = .ok (.goto 64, 3) := by decide +kernel
theorem dX8_kindHere_15 : decode cX8_kindHere 15 = .ok (.aload_n 0, 1) := by decide +kernel
theorem dX8_kindHere_16 : decode cX8_kindHere 16 = .ok (.aload_n 0, 1) := by decide +kernel
theorem dX8_kindHere_17 : decode cX8_kindHere 17 = .ok (.getfield 57, 3) := by decide +kernel
theorem dX8_kindHere_20 : decode cX8_kindHere 20 = .ok (.invokevirtual 140, 3) := by decide +kernel
theorem dX8_kindHere_23 : decode cX8_kindHere 23 = .ok (.ifCond .eq 7, 3) := by decide +kernel
theorem dX8_kindHere_26 : decode cX8_kindHere 26 = .ok (.iconst 1, 1) := by decide +kernel
theorem dX8_kindHere_27 : decode cX8_kindHere 27 = .ok (.goto 49, 3) := by decide +kernel
theorem dX8_kindHere_30 : decode cX8_kindHere 30 = .ok (.aload_n 0, 1) := by decide +kernel
theorem dX8_kindHere_31 : decode cX8_kindHere 31 = .ok (.aload_n 0, 1) := by decide +kernel
theorem dX8_kindHere_32 : decode cX8_kindHere 32 = .ok (.getfield 60, 3) := by decide +kernel
theorem dX8_kindHere_35 : decode cX8_kindHere 35 = .ok (.invokevirtual 140, 3) := by decide +kernel
theorem dX8_kindHere_38 : decode cX8_kindHere 38 = .ok (.ifCond .eq 7, 3) := by decide +kernel
theorem dX8_kindHere_41 : decode cX8_kindHere 41 = .ok (.iconst 2, 1) := by decide +kernel
theorem dX8_kindHere_42 : decode cX8_kindHere 42 = .ok (.goto 34, 3) := by decide +kernel
theorem dX8_kindHere_45 : decode cX8_kindHere 45 = .ok (.aload_n 0, 1) := by decide +kernel
theorem dX8_kindHere_46 : decode cX8_kindHere 46 = .ok (.aload_n 0, 1) := by decide +kernel
theorem dX8_kindHere_47 : decode cX8_kindHere 47 = .ok (.getfield 63, 3) := by decide +kernel
theorem dX8_kindHere_50 : decode cX8_kindHere 50 = .ok (.invokevirtual 140, 3) := by decide +kernel
theorem dX8_kindHere_53 : decode cX8_kindHere 53 = .ok (.ifCond .eq 7, 3) := by decide +kernel
theorem dX8_kindHere_56 : decode cX8_kindHere 56 = .ok (.iconst 3, 1) := by decide +kernel
theorem dX8_kindHere_57 : decode cX8_kindHere 57 = .ok (.goto 19, 3) := by decide +kernel
theorem dX8_kindHere_60 : decode cX8_kindHere 60 = .ok (.aload_n 0, 1) := by decide +kernel
theorem dX8_kindHere_61 : decode cX8_kindHere 61 = .ok (.aload_n 0, 1) := by decide +kernel
theorem dX8_kindHere_62 : decode cX8_kindHere 62 = .ok (.getfield 66, 3) := by decide +kernel
theorem dX8_kindHere_65 : decode cX8_kindHere 65 = .ok (.invokevirtual 140, 3) := by decide +kernel
theorem dX8_kindHere_68 : decode cX8_kindHere 68 = .ok (.ifCond .eq 7, 3) := by decide +kernel
theorem dX8_kindHere_71 : decode cX8_kindHere 71 = .ok (.iconst 4, 1) := by decide +kernel
theorem dX8_kindHere_72 : decode cX8_kindHere 72 = .ok (.goto 4, 3) := by decide +kernel
theorem dX8_kindHere_75 : decode cX8_kindHere 75 = .ok (.iconst (-1), 1) := by decide +kernel
theorem dX8_kindHere_76 : decode cX8_kindHere 76 = .ok (.ireturn, 1) := by decide +kernel
set_option maxRecDepth 20000 in
theorem ggX8_readsLeech_X8_nextToken : GoodIn wsX8_readsLeech wsX8_nextToken := goodIn_r _ [8, 9, 10, 11, 12, 13, 14, 7, 15, 16, 17, 18, 19, 20, 21, 22, 23, 24, 25, 26, 27, 28, 29, 30, 31, 32, 33, 34, 35, 36, 37, 38, 39, 40, 41, 42, 43, 44, 45, 46, 47, 48, 49, 50, 51, 52, 53, 54, 55, 56, 57, 58, 59, 60, 61, 62] (by decide +kernel) (by decide +kernel)
set_option maxRecDepth 20000 in
theorem gX8_readsLeech_X8_nextToken : GoodIn wsX8_readsLeech (wsV RX8 115 RX8 yX8_nextToken wsX8_nextToken) := goodIn_app (goodIn_of _ (by decide +kernel)) ggX8_readsLeech_X8_nextToken
theorem dX8_readsLeech_0 : decode cX8_readsLeech 0 = .ok (.aload_n 0, 1) := by decide +kernel
theorem dX8_readsLeech_1 : decode cX8_readsLeech 1 = .ok (.getfield 144, 3) := by decide +kernel
theorem dX8_readsLeech_4 : decode cX8_readsLeech 4 = .ok (.iconst 5, 1) := by decide +kernel
theorem dX8_readsLeech_5 : decode cX8_readsLeech 5 = .ok (.if_icmp .ne 5, 3) := by decide +kernel
theorem dX8_readsLeech_8 : decode cX8_readsLeech 8 = .ok (.iconst 0, 1) := by decide +kernel
theorem dX8_readsLeech_9 : decode cX8_readsLeech 9 = .ok (.ireturn, 1) := by decide +kernel
theorem dX8_readsLeech_10 : decode cX8_readsLeech 10 = .ok (.aload_n 0, 1) := by decide +kernel
theorem dX8_readsLeech_11 : decode cX8_readsLeech 11 = .ok (.invokevirtual 115, 3) := by decide +kernel
theorem dX8_readsLeech_14 : decode cX8_readsLeech 14 = .ok (.aload_n 0, 1) := by decide +kernel
theorem dX8_readsLeech_15 : decode cX8_readsLeech 15 = .ok (.getfield 129, 3) := by decide +kernel
theorem dX8_readsLeech_18 : decode cX8_readsLeech 18 = .ok (.ifCond .eq 40, 3) := by decide +kernel
theorem dX8_readsLeech_21 : decode cX8_readsLeech 21 = .ok (.aload_n 0, 1) := by decide +kernel
theorem dX8_readsLeech_22 : decode cX8_readsLeech 22 = .ok (.getfield 7, 3) := by decide +kernel
theorem dX8_readsLeech_25 : decode cX8_readsLeech 25 = .ok (.bipush 66, 2) := by decide +kernel
theorem dX8_readsLeech_27 : decode cX8_readsLeech 27 = .ok (.aload_n 0, 1) := by decide +kernel
theorem dX8_readsLeech_28 : decode cX8_readsLeech 28 = .ok (.getfield 144, 3) := by decide +kernel
theorem dX8_readsLeech_31 : decode cX8_readsLeech 31 = .ok (.iadd, 1) := by decide +kernel
theorem dX8_readsLeech_32 : decode cX8_readsLeech 32 = .ok (.iload_n 1, 1) := by decide +kernel
theorem dX8_readsLeech_33 : decode cX8_readsLeech 33 = .ok (.iastore, 1) := by decide +kernel
theorem dX8_readsLeech_34 : decode cX8_readsLeech 34 = .ok (.aload_n 0, 1) := by decide +kernel
theorem dX8_readsLeech_35 : decode cX8_readsLeech 35 = .ok (.getfield 7, 3) := by decide +kernel
theorem dX8_readsLeech_38 : decode cX8_readsLeech 38 = .ok (.bipush 52, 2) := by decide +kernel
theorem dX8_readsLeech_40 : decode cX8_readsLeech 40 = .ok (.aload_n 0, 1) := by decide +kernel
theorem dX8_readsLeech_41 : decode cX8_readsLeech 41 = .ok (.getfield 144, 3) := by decide +kernel
theorem dX8_readsLeech_44 : decode cX8_readsLeech 44 = .ok (.iadd, 1) := by decide +kernel
theorem dX8_readsLeech_45 : decode cX8_readsLeech 45 = .ok (.iconst (-1), 1) := by decide +kernel
theorem dX8_readsLeech_46 : decode cX8_readsLeech 46 = .ok (.iastore, 1) := by decide +kernel
theorem dX8_readsLeech_47 : decode cX8_readsLeech 47 = .ok (.aload_n 0, 1) := by decide +kernel
theorem dX8_readsLeech_48 : decode cX8_readsLeech 48 = .ok (.getfield 7, 3) := by decide +kernel
theorem dX8_readsLeech_51 : decode cX8_readsLeech 51 = .ok (.bipush 65, 2) := by decide +kernel
theorem dX8_readsLeech_53 : decode cX8_readsLeech 53 = .ok (.dup2, 1) := by decide +kernel
theorem dX8_readsLeech_54 : decode cX8_readsLeech 54 = .ok (.iaload, 1) := by decide +kernel
theorem dX8_readsLeech_55 : decode cX8_readsLeech 55 = .ok (.iconst 1, 1) := by decide +kernel
theorem dX8_readsLeech_56 : decode cX8_readsLeech 56 = .ok (.iadd, 1) := by decide +kernel
theorem dX8_readsLeech_57 : decode cX8_readsLeech 57 = .ok (.iastore, 1) := by decide +kernel
theorem dX8_readsLeech_58 : decode cX8_readsLeech 58 = .ok (.aload_n 0, 1) := by decide +kernel
theorem dX8_readsLeech_59 : decode cX8_readsLeech 59 = .ok (.dup, 1) := by decide +kernel
theorem dX8_readsLeech_60 : decode cX8_readsLeech 60 = .ok (.getfield 144, 3) := by decide +kernel
theorem dX8_readsLeech_63 : decode cX8_readsLeech 63 = .ok (.iconst 1, 1) := by decide +kernel
theorem dX8_readsLeech_64 : decode cX8_readsLeech 64 = .ok (.iadd, 1) := by decide +kernel
theorem dX8_readsLeech_65 : decode cX8_readsLeech 65 = .ok (.putfield 144, 3) := by decide +kernel
theorem dX8_readsLeech_68 : decode cX8_readsLeech 68 = .ok (.iconst 1, 1) := by decide +kernel
theorem dX8_readsLeech_69 : decode cX8_readsLeech 69 = .ok (.ireturn, 1) := by decide +kernel
set_option maxRecDepth 20000 in
theorem ggX8_readsOn_X8_nextToken : GoodIn wsX8_readsOn wsX8_nextToken := goodIn_r _ [9, 10, 11, 12, 13, 14, 15, 8, 16, 17, 18, 19, 20, 21, 22, 23, 24, 25, 26, 31, 32, 33, 34, 35, 36, 37, 38, 39, 40, 41, 42, 43, 44, 45, 46, 47, 48, 49, 50, 51, 52, 53, 54, 55, 56, 57, 58, 59, 60, 61, 62, 63, 64, 65, 66, 67] (by decide +kernel) (by decide +kernel)
set_option maxRecDepth 20000 in
theorem gX8_readsOn_X8_nextToken : GoodIn wsX8_readsOn (wsV RX8 115 RX8 yX8_nextToken wsX8_nextToken) := goodIn_app (goodIn_of _ (by decide +kernel)) ggX8_readsOn_X8_nextToken
set_option maxRecDepth 20000 in
theorem ggX8_readsOn_X8_number : GoodIn wsX8_readsOn wsX8_number := goodIn_r _ [30, 11, 12, 13, 10, 22, 23, 8, 24, 25, 26, 19, 20, 21, 5, 6, 7, 9, 14, 15, 16, 17, 18, 31, 32, 33, 34, 35, 36, 37, 38, 39, 40, 41, 42, 43, 44, 45, 46, 47, 48, 49, 50, 51, 52, 53, 54, 55, 56, 57, 58, 59, 60, 61, 62, 63, 64, 65, 66, 67] (by decide +kernel) (by decide +kernel)
set_option maxRecDepth 20000 in
theorem gX8_readsOn_X8_number : GoodIn wsX8_readsOn (wsV RX8 147 RX8 yX8_number wsX8_number) := goodIn_app (goodIn_of _ (by decide +kernel)) ggX8_readsOn_X8_number
theorem dX8_readsOn_0 : decode cX8_readsOn 0 = .ok (.aload_n 0, 1) := by decide +kernel
theorem dX8_readsOn_1 : decode cX8_readsOn 1 = .ok (.invokevirtual 115, 3) := by decide +kernel
theorem dX8_readsOn_4 : decode cX8_readsOn 4 = .ok (.aload_n 0, 1) := by decide +kernel
theorem dX8_readsOn_5 : decode cX8_readsOn 5 = .ok (.aload_n 0, 1) := by decide +kernel
theorem dX8_readsOn_6 : decode cX8_readsOn 6 = .ok (.getfield 144, 3) := by decide +kernel
theorem dX8_readsOn_9 : decode cX8_readsOn 9 = .ok (.invokevirtual 147, 3) := by decide +kernel
theorem dX8_readsOn_12 : decode cX8_readsOn 12 = .ok (.istore_n 1, 1) := by decide +kernel
theorem dX8_readsOn_13 : decode cX8_readsOn 13 = .ok (.iload_n 1, 1) := by decide +kernel
theorem dX8_readsOn_14 : decode cX8_readsOn 14 = .ok (.iconst (-1), 1) := by decide +kernel
theorem dX8_readsOn_15 : decode cX8_readsOn 15 = .ok (.if_icmp .ne 7, 3) := by decide +kernel
theorem dX8_readsOn_18 : decode cX8_readsOn 18 = .ok (.iconst (-1), 1) := by decide +kernel
theorem dX8_readsOn_19 : decode cX8_readsOn 19 = .ok (.goto 11, 3) := by decide +kernel
theorem dX8_readsOn_22 : decode cX8_readsOn 22 = .ok (.aload_n 0, 1) := by decide +kernel
theorem dX8_readsOn_23 : decode cX8_readsOn 23 = .ok (.aload_n 0, 1) := by decide +kernel
theorem dX8_readsOn_24 : decode cX8_readsOn 24 = .ok (.getfield 137, 3) := by decide +kernel
theorem dX8_readsOn_27 : decode cX8_readsOn 27 = .ok (.invokevirtual 147, 3) := by decide +kernel
theorem dX8_readsOn_30 : decode cX8_readsOn 30 = .ok (.istore_n 2, 1) := by decide +kernel
theorem dX8_readsOn_31 : decode cX8_readsOn 31 = .ok (.iload_n 2, 1) := by decide +kernel
theorem dX8_readsOn_32 : decode cX8_readsOn 32 = .ok (.iconst (-1), 1) := by decide +kernel
theorem dX8_readsOn_33 : decode cX8_readsOn 33 = .ok (.if_icmp .ne 5, 3) := by decide +kernel
theorem dX8_readsOn_36 : decode cX8_readsOn 36 = .ok (.iconst 0, 1) := by decide +kernel
theorem dX8_readsOn_37 : decode cX8_readsOn 37 = .ok (.ireturn, 1) := by decide +kernel
theorem dX8_readsOn_38 : decode cX8_readsOn 38 = .ok (.aload_n 0, 1) := by decide +kernel
theorem dX8_readsOn_39 : decode cX8_readsOn 39 = .ok (.getfield 7, 3) := by decide +kernel
theorem dX8_readsOn_42 : decode cX8_readsOn 42 = .ok (.bipush 52, 2) := by decide +kernel
theorem dX8_readsOn_44 : decode cX8_readsOn 44 = .ok (.iload_n 1, 1) := by decide +kernel
theorem dX8_readsOn_45 : decode cX8_readsOn 45 = .ok (.iadd, 1) := by decide +kernel
theorem dX8_readsOn_46 : decode cX8_readsOn 46 = .ok (.aload_n 0, 1) := by decide +kernel
theorem dX8_readsOn_47 : decode cX8_readsOn 47 = .ok (.getfield 129, 3) := by decide +kernel
theorem dX8_readsOn_50 : decode cX8_readsOn 50 = .ok (.ifCond .eq 7, 3) := by decide +kernel
theorem dX8_readsOn_53 : decode cX8_readsOn 53 = .ok (.iload_n 2, 1) := by decide +kernel
theorem dX8_readsOn_54 : decode cX8_readsOn 54 = .ok (.goto 12, 3) := by decide +kernel
theorem dX8_readsOn_57 : decode cX8_readsOn 57 = .ok (.aload_n 0, 1) := by decide +kernel
theorem dX8_readsOn_58 : decode cX8_readsOn 58 = .ok (.getfield 7, 3) := by decide +kernel
theorem dX8_readsOn_61 : decode cX8_readsOn 61 = .ok (.bipush 52, 2) := by decide +kernel
theorem dX8_readsOn_63 : decode cX8_readsOn 63 = .ok (.iload_n 1, 1) := by decide +kernel
theorem dX8_readsOn_64 : decode cX8_readsOn 64 = .ok (.iadd, 1) := by decide +kernel
theorem dX8_readsOn_65 : decode cX8_readsOn 65 = .ok (.iaload, 1) := by decide +kernel
theorem dX8_readsOn_66 : decode cX8_readsOn 66 = .ok (.iastore, 1) := by decide +kernel
theorem dX8_readsOn_67 : decode cX8_readsOn 67 = .ok (.iconst 1, 1) := by decide +kernel
theorem dX8_readsOn_68 : decode cX8_readsOn 68 = .ok (.ireturn, 1) := by decide +kernel
set_option maxRecDepth 20000 in
theorem ggX8_readsClub_X8_nextToken : GoodIn wsX8_readsClub wsX8_nextToken := goodIn_r _ [10, 11, 12, 13, 14, 15, 16, 9, 17, 18, 19, 20, 21, 22, 23, 24, 25, 26, 27, 28, 29, 30, 31, 32, 33, 34, 35, 36, 37, 38, 39, 40, 41, 42, 43, 44, 45, 46, 47, 48, 49, 50, 51, 52, 53, 54, 55, 56, 57, 58, 59, 60, 61, 62, 63, 64] (by decide +kernel) (by decide +kernel)
set_option maxRecDepth 20000 in
theorem gX8_readsClub_X8_nextToken : GoodIn wsX8_readsClub (wsV RX8 115 RX8 yX8_nextToken wsX8_nextToken) := goodIn_app (goodIn_of _ (by decide +kernel)) ggX8_readsClub_X8_nextToken
theorem dX8_readsClub_0 : decode cX8_readsClub 0 = .ok (.aload_n 0, 1) := by decide +kernel
theorem dX8_readsClub_1 : decode cX8_readsClub 1 = .ok (.invokevirtual 115, 3) := by decide +kernel
theorem dX8_readsClub_4 : decode cX8_readsClub 4 = .ok (.aload_n 0, 1) := by decide +kernel
theorem dX8_readsClub_5 : decode cX8_readsClub 5 = .ok (.iconst 0, 1) := by decide +kernel
theorem dX8_readsClub_6 : decode cX8_readsClub 6 = .ok (.putfield 118, 3) := by decide +kernel
theorem dX8_readsClub_9 : decode cX8_readsClub 9 = .ok (.aload_n 0, 1) := by decide +kernel
theorem dX8_readsClub_10 : decode cX8_readsClub 10 = .ok (.iconst 0, 1) := by decide +kernel
theorem dX8_readsClub_11 : decode cX8_readsClub 11 = .ok (.putfield 137, 3) := by decide +kernel
theorem dX8_readsClub_14 : decode cX8_readsClub 14 = .ok (.aload_n 0, 1) := by decide +kernel
theorem dX8_readsClub_15 : decode cX8_readsClub 15 = .ok (.iconst 0, 1) := by decide +kernel
theorem dX8_readsClub_16 : decode cX8_readsClub 16 = .ok (.putfield 144, 3) := by decide +kernel
theorem dX8_readsClub_19 : decode cX8_readsClub 19 = .ok (.iconst 0, 1) := by decide +kernel
theorem dX8_readsClub_20 : decode cX8_readsClub 20 = .ok (.istore_n 1, 1) := by decide +kernel
theorem dX8_readsClub_21 : decode cX8_readsClub 21 = .ok (.iload_n 1, 1) := by decide +kernel
theorem dX8_readsClub_22 : decode cX8_readsClub 22 = .ok (.bipush 48, 2) := by decide +kernel
theorem dX8_readsClub_24 : decode cX8_readsClub 24 = .ok (.if_icmp .ge 26, 3) := by decide +kernel
theorem dX8_readsClub_27 : decode cX8_readsClub 27 = .ok (.aload_n 0, 1) := by decide +kernel
theorem dX8_readsClub_28 : decode cX8_readsClub 28 = .ok (.getfield 129, 3) := by decide +kernel
theorem dX8_readsClub_31 : decode cX8_readsClub 31 = .ok (.ifCond .eq 19, 3) := by decide +kernel
theorem dX8_readsClub_34 : decode cX8_readsClub 34 = .ok (.aload_n 0, 1) := by decide +kernel
theorem dX8_readsClub_35 : decode cX8_readsClub 35 = .ok (.getfield 7, 3) := by decide +kernel
theorem dX8_readsClub_38 : decode cX8_readsClub 38 = .ok (.bipush 48, 2) := by decide +kernel
theorem dX8_readsClub_40 : decode cX8_readsClub 40 = .ok (.iload_n 1, 1) := by decide +kernel
theorem dX8_readsClub_41 : decode cX8_readsClub 41 = .ok (.iadd, 1) := by decide +kernel
theorem dX8_readsClub_42 : decode cX8_readsClub 42 = .ok (.iconst 0, 1) := by decide +kernel
theorem dX8_readsClub_43 : decode cX8_readsClub 43 = .ok (.iastore, 1) := by decide +kernel
theorem dX8_readsClub_44 : decode cX8_readsClub 44 = .ok (.iinc 1 1, 3) := by decide +kernel
theorem dX8_readsClub_47 : decode cX8_readsClub 47 = .ok (.goto (-26), 3) := by decide +kernel
theorem dX8_readsClub_50 : decode cX8_readsClub 50 = .ok (.iconst 1, 1) := by decide +kernel
theorem dX8_readsClub_51 : decode cX8_readsClub 51 = .ok (.ireturn, 1) := by decide +kernel
set_option maxRecDepth 20000 in
theorem ggX8_readsClause_X8_kindHere : GoodIn wsX8_readsClause wsX8_kindHere := goodIn_r _ [9, 10, 11, 12, 13, 14, 15, 16, 17, 8, 18, 19, 20, 21, 80, 81, 82, 83, 84, 85, 86, 87, 88, 89, 90, 91, 92, 93, 94, 95, 96, 97, 98, 99, 100, 101, 102, 103, 104, 105, 106, 107, 108, 109, 110, 111, 112, 113, 114, 115, 116] (by decide +kernel) (by decide +kernel)
set_option maxRecDepth 20000 in
theorem gX8_readsClause_X8_kindHere : GoodIn wsX8_readsClause (wsV RX8 151 RX8 yX8_kindHere wsX8_kindHere) := goodIn_app (goodIn_of _ (by decide +kernel)) ggX8_readsClause_X8_kindHere
set_option maxRecDepth 20000 in
theorem ggX8_readsClause_X8_readsLeech : GoodIn wsX8_readsClause wsX8_readsLeech := goodIn_r _ [25, 26, 27, 28, 29, 30, 31, 8, 32, 19, 20, 33, 21, 34, 35, 36, 37, 38, 39, 40, 41, 42, 43, 44, 45, 46, 80, 81, 82, 83, 84, 85, 86, 87, 88, 89, 90, 91, 92, 93, 94, 95, 96, 97, 98, 99, 100, 101, 102, 103, 104, 105, 106, 107, 108, 109, 110, 111, 112, 113, 114, 115, 116] (by decide +kernel) (by decide +kernel)
set_option maxRecDepth 20000 in
theorem gX8_readsClause_X8_readsLeech : GoodIn wsX8_readsClause (wsV RX8 154 RX8 yX8_readsLeech wsX8_readsLeech) := goodIn_app (goodIn_of _ (by decide +kernel)) ggX8_readsClause_X8_readsLeech
set_option maxRecDepth 20000 in
theorem ggX8_readsClause_X8_isWord : GoodIn wsX8_readsClause wsX8_isWord := goodIn_r _ [18, 19, 20, 21, 80, 81, 82, 83, 84, 85, 86, 87, 88, 89, 90, 91, 92, 93, 94, 95, 96, 97, 98, 99, 100, 101, 102, 103, 104, 105, 106, 107, 108, 109, 110, 111, 112, 113, 114, 115, 116] (by decide +kernel) (by decide +kernel)
set_option maxRecDepth 20000 in
theorem gX8_readsClause_X8_isWord : GoodIn wsX8_readsClause (wsV RX8 140 RX8 yX8_isWord wsX8_isWord) := goodIn_app (goodIn_of _ (by decide +kernel)) ggX8_readsClause_X8_isWord
set_option maxRecDepth 20000 in
theorem ggX8_readsClause_X8_readsClub : GoodIn wsX8_readsClause wsX8_readsClub := goodIn_r _ [50, 51, 52, 26, 27, 28, 29, 30, 31, 8, 32, 19, 20, 33, 21, 34, 35, 36, 37, 38, 39, 40, 41, 42, 43, 44, 45, 46, 80, 81, 82, 83, 84, 85, 86, 87, 88, 89, 90, 91, 92, 93, 94, 95, 96, 97, 98, 99, 100, 101, 102, 103, 104, 105, 106, 107, 108, 109, 110, 111, 112, 113, 114, 115, 116] (by decide +kernel) (by decide +kernel)
set_option maxRecDepth 20000 in
theorem gX8_readsClause_X8_readsClub : GoodIn wsX8_readsClause (wsV RX8 157 RX8 yX8_readsClub wsX8_readsClub) := goodIn_app (goodIn_of _ (by decide +kernel)) ggX8_readsClause_X8_readsClub
set_option maxRecDepth 20000 in
theorem ggX8_readsClause_X8_readsFact : GoodIn wsX8_readsClause wsX8_readsFact := goodIn_r _ [56, 51, 27, 28, 29, 30, 31, 8, 32, 19, 20, 33, 21, 34, 35, 36, 37, 38, 39, 40, 41, 42, 43, 44, 45, 46, 57, 58, 59, 60, 61, 62, 63, 64, 65, 66, 67, 80, 81, 82, 83, 84, 85, 86, 87, 88, 89, 90, 91, 92, 93, 94, 95, 96, 97, 98, 99, 100, 101, 102, 103, 104, 105, 106, 107, 108, 109, 110, 111, 112, 113, 114, 115, 116] (by decide +kernel) (by decide +kernel)
set_option maxRecDepth 20000 in
theorem gX8_readsClause_X8_readsFact : GoodIn wsX8_readsClause (wsV RX8 161 RX8 yX8_readsFact wsX8_readsFact) := goodIn_app (goodIn_of _ (by decide +kernel)) ggX8_readsClause_X8_readsFact
set_option maxRecDepth 20000 in
theorem ggX8_readsClause_X8_readsMember : GoodIn wsX8_readsClause wsX8_readsMember := goodIn_r _ [71, 52, 27, 28, 29, 30, 31, 8, 32, 19, 20, 33, 21, 34, 35, 36, 37, 38, 39, 40, 41, 42, 43, 44, 45, 46, 57, 58, 59, 60, 51, 61, 62, 63, 64, 65, 66, 67, 80, 81, 82, 83, 84, 85, 86, 87, 88, 89, 90, 91, 92, 93, 94, 95, 96, 97, 98, 99, 100, 101, 102, 103, 104, 105, 106, 107, 108, 109, 110, 111, 112, 113, 114, 115, 116] (by decide +kernel) (by decide +kernel)
set_option maxRecDepth 20000 in
theorem gX8_readsClause_X8_readsMember : GoodIn wsX8_readsClause (wsV RX8 164 RX8 yX8_readsMember wsX8_readsMember) := goodIn_app (goodIn_of _ (by decide +kernel)) ggX8_readsClause_X8_readsMember
set_option maxRecDepth 20000 in
theorem ggX8_readsClause_X8_readsOn : GoodIn wsX8_readsClause wsX8_readsOn := goodIn_r _ [75, 26, 52, 28, 27, 29, 30, 31, 8, 32, 19, 20, 33, 21, 34, 35, 36, 37, 38, 39, 40, 41, 42, 43, 44, 45, 46, 76, 77, 78, 79, 80, 81, 82, 83, 84, 85, 86, 87, 88, 89, 90, 91, 92, 93, 94, 95, 96, 97, 98, 99, 100, 101, 102, 103, 104, 105, 106, 107, 108, 109, 110, 111, 112, 113, 114, 115, 116] (by decide +kernel) (by decide +kernel)
set_option maxRecDepth 20000 in
theorem gX8_readsClause_X8_readsOn : GoodIn wsX8_readsClause (wsV RX8 167 RX8 yX8_readsOn wsX8_readsOn) := goodIn_app (goodIn_of _ (by decide +kernel)) ggX8_readsClause_X8_readsOn
theorem dX8_readsClause_0 : decode cX8_readsClause 0 = .ok (.aload_n 0, 1) := by decide +kernel
theorem dX8_readsClause_1 : decode cX8_readsClause 1 = .ok (.invokevirtual 151, 3) := by decide +kernel
theorem dX8_readsClause_4 : decode cX8_readsClause 4 = .ok (.iconst (-1), 1) := by decide +kernel
theorem dX8_readsClause_5 : decode cX8_readsClause 5 = .ok (.if_icmp .eq 12, 3) := by decide +kernel
theorem dX8_readsClause_8 : decode cX8_readsClause 8 = .ok (.aload_n 0, 1) := by decide +kernel
theorem dX8_readsClause_9 : decode cX8_readsClause 9 = .ok (.aload_n 0, 1) := by decide +kernel
theorem dX8_readsClause_10 : decode cX8_readsClause 10 = .ok (.invokevirtual 151, 3) := by decide +kernel
theorem dX8_readsClause_13 : decode cX8_readsClause 13 = .ok (.invokevirtual 154, 3) := by decide +kernel
theorem dX8_readsClause_16 : decode cX8_readsClause 16 = .ok (.ireturn, 1) := by decide +kernel
theorem dX8_readsClause_17 : decode cX8_readsClause 17 = .ok (.aload_n 0, 1) := by decide +kernel
theorem dX8_readsClause_18 : decode cX8_readsClause 18 = .ok (.aload_n 0, 1) := by decide +kernel
theorem dX8_readsClause_19 : decode cX8_readsClause 19 = .ok (.getfield 45, 3) := by decide +kernel
theorem dX8_readsClause_22 : decode cX8_readsClause 22 = .ok (.invokevirtual 140, 3) := by decide +kernel
theorem dX8_readsClause_25 : decode cX8_readsClause 25 = .ok (.ifCond .eq 10, 3) := by decide +kernel
theorem dX8_readsClause_28 : decode cX8_readsClause 28 = .ok (.aload_n 0, 1) := by decide +kernel
theorem dX8_readsClause_29 : decode cX8_readsClause 29 = .ok (.invokevirtual 157, 3) := by decide +kernel
theorem dX8_readsClause_32 : decode cX8_readsClause 32 = .ok (.goto 62, 3) := by decide +kernel
theorem dX8_readsClause_35 : decode cX8_readsClause 35 = .ok (.aload_n 0, 1) := by decide +kernel
theorem dX8_readsClause_36 : decode cX8_readsClause 36 = .ok (.aload_n 0, 1) := by decide +kernel
theorem dX8_readsClause_37 : decode cX8_readsClause 37 = .ok (.getfield 48, 3) := by decide +kernel
theorem dX8_readsClause_40 : decode cX8_readsClause 40 = .ok (.invokevirtual 140, 3) := by decide +kernel
theorem dX8_readsClause_43 : decode cX8_readsClause 43 = .ok (.ifCond .eq 10, 3) := by decide +kernel
theorem dX8_readsClause_46 : decode cX8_readsClause 46 = .ok (.aload_n 0, 1) := by decide +kernel
theorem dX8_readsClause_47 : decode cX8_readsClause 47 = .ok (.invokevirtual 161, 3) := by decide +kernel
theorem dX8_readsClause_50 : decode cX8_readsClause 50 = .ok (.goto 44, 3) := by decide +kernel
theorem dX8_readsClause_53 : decode cX8_readsClause 53 = .ok (.aload_n 0, 1) := by decide +kernel
theorem dX8_readsClause_54 : decode cX8_readsClause 54 = .ok (.aload_n 0, 1) := by decide +kernel
theorem dX8_readsClause_55 : decode cX8_readsClause 55 = .ok (.getfield 51, 3) := by decide +kernel
theorem dX8_readsClause_58 : decode cX8_readsClause 58 = .ok (.invokevirtual 140, 3) := by decide +kernel
theorem dX8_readsClause_61 : decode cX8_readsClause 61 = .ok (.ifCond .eq 10, 3) := by decide +kernel
theorem dX8_readsClause_64 : decode cX8_readsClause 64 = .ok (.aload_n 0, 1) := by decide +kernel
theorem dX8_readsClause_65 : decode cX8_readsClause 65 = .ok (.invokevirtual 164, 3) := by decide +kernel
theorem dX8_readsClause_68 : decode cX8_readsClause 68 = .ok (.goto 26, 3) := by decide +kernel
theorem dX8_readsClause_71 : decode cX8_readsClause 71 = .ok (.aload_n 0, 1) := by decide +kernel
theorem dX8_readsClause_72 : decode cX8_readsClause 72 = .ok (.aload_n 0, 1) := by decide +kernel
theorem dX8_readsClause_73 : decode cX8_readsClause 73 = .ok (.getfield 69, 3) := by decide +kernel
theorem dX8_readsClause_76 : decode cX8_readsClause 76 = .ok (.invokevirtual 140, 3) := by decide +kernel
theorem dX8_readsClause_79 : decode cX8_readsClause 79 = .ok (.ifCond .eq 14, 3) := by decide +kernel
theorem dX8_readsClause_82 : decode cX8_readsClause 82 = .ok (.aload_n 0, 1) := by decide +kernel
theorem dX8_readsClause_83 : decode cX8_readsClause 83 = .ok (.invokevirtual 167, 3) := by decide +kernel
theorem dX8_readsClause_86 : decode cX8_readsClause 86 = .ok (.ifCond .eq 7, 3) := by decide +kernel
theorem dX8_readsClause_89 : decode cX8_readsClause 89 = .ok (.iconst 1, 1) := by decide +kernel
theorem dX8_readsClause_90 : decode cX8_readsClause 90 = .ok (.goto 4, 3) := by decide +kernel
theorem dX8_readsClause_93 : decode cX8_readsClause 93 = .ok (.iconst 0, 1) := by decide +kernel
theorem dX8_readsClause_94 : decode cX8_readsClause 94 = .ok (.ireturn, 1) := by decide +kernel
set_option maxRecDepth 20000 in
theorem ggX8_reads_X8_nextToken : GoodIn wsX8_reads wsX8_nextToken := goodIn_r _ [15, 2, 8, 9, 10, 16, 17, 14, 18, 19, 20, 21, 22, 23, 24, 25, 26, 27, 28, 85, 86, 87, 88, 89, 90, 91, 92, 93, 94, 95, 96, 97, 98, 99, 100, 101, 102, 103, 104, 105, 106, 107, 108, 109, 110, 111, 112, 113, 114, 115, 116, 117, 118, 119, 120, 121] (by decide +kernel) (by decide +kernel)
set_option maxRecDepth 20000 in
theorem gX8_reads_X8_nextToken : GoodIn wsX8_reads (wsV RX8 115 RX8 yX8_nextToken wsX8_nextToken) := goodIn_app (goodIn_of _ (by decide +kernel)) ggX8_reads_X8_nextToken
set_option maxRecDepth 20000 in
theorem ggX8_reads_X8_readsClause : GoodIn wsX8_reads wsX8_readsClause := goodIn_r _ [32, 33, 34, 35, 36, 37, 38, 39, 14, 40, 41, 42, 43, 44, 45, 46, 47, 48, 49, 2, 8, 10, 50, 51, 52, 53, 7, 1, 4, 11, 12, 13, 15, 9, 16, 17, 18, 19, 20, 21, 22, 23, 24, 25, 26, 27, 28, 54, 55, 56, 57, 5, 6, 58, 59, 60, 61, 62, 63, 64, 65, 66, 67, 68, 69, 70, 71, 72, 73, 74, 75, 76, 77, 78, 79, 80, 81, 82, 83, 84, 85, 86, 87, 88, 89, 90, 91, 92, 93, 94, 95, 96, 97, 98, 99, 100, 101, 102, 103, 104, 105, 106, 107, 108, 109, 110, 111, 112, 113, 114, 115, 116, 117, 118, 119, 120, 121] (by decide +kernel) (by decide +kernel)
set_option maxRecDepth 20000 in
theorem gX8_reads_X8_readsClause : GoodIn wsX8_reads (wsV RX8 173 RX8 yX8_readsClause wsX8_readsClause) := goodIn_app (goodIn_of _ (by decide +kernel)) ggX8_reads_X8_readsClause
theorem dX8_reads_0 : decode cX8_reads 0 = .ok (.aload_n 0, 1) := by decide +kernel
theorem dX8_reads_1 : decode cX8_reads 1 = .ok (.iload_n 1, 1) := by decide +kernel
theorem dX8_reads_2 : decode cX8_reads 2 = .ok (.putfield 129, 3) := by decide +kernel
theorem dX8_reads_5 : decode cX8_reads 5 = .ok (.aload_n 0, 1) := by decide +kernel
theorem dX8_reads_6 : decode cX8_reads 6 = .ok (.iconst 0, 1) := by decide +kernel
theorem dX8_reads_7 : decode cX8_reads 7 = .ok (.putfield 102, 3) := by decide +kernel
theorem dX8_reads_10 : decode cX8_reads 10 = .ok (.aload_n 0, 1) := by decide +kernel
theorem dX8_reads_11 : decode cX8_reads 11 = .ok (.iconst 1, 1) := by decide +kernel
theorem dX8_reads_12 : decode cX8_reads 12 = .ok (.putfield 170, 3) := by decide +kernel
theorem dX8_reads_15 : decode cX8_reads 15 = .ok (.aload_n 0, 1) := by decide +kernel
theorem dX8_reads_16 : decode cX8_reads 16 = .ok (.aload_n 0, 1) := by decide +kernel
theorem dX8_reads_17 : decode cX8_reads 17 = .ok (.getfield 7, 3) := by decide +kernel
theorem dX8_reads_20 : decode cX8_reads 20 = .ok (.bipush 71, 2) := by decide +kernel
theorem dX8_reads_22 : decode cX8_reads 22 = .ok (.iaload, 1) := by decide +kernel
theorem dX8_reads_23 : decode cX8_reads 23 = .ok (.putfield 118, 3) := by decide +kernel
theorem dX8_reads_26 : decode cX8_reads 26 = .ok (.aload_n 0, 1) := by decide +kernel
theorem dX8_reads_27 : decode cX8_reads 27 = .ok (.aload_n 0, 1) := by decide +kernel
theorem dX8_reads_28 : decode cX8_reads 28 = .ok (.getfield 7, 3) := by decide +kernel
theorem dX8_reads_31 : decode cX8_reads 31 = .ok (.bipush 64, 2) := by decide +kernel
theorem dX8_reads_33 : decode cX8_reads 33 = .ok (.iaload, 1) := by decide +kernel
theorem dX8_reads_34 : decode cX8_reads 34 = .ok (.putfield 137, 3) := by decide +kernel
theorem dX8_reads_37 : decode cX8_reads 37 = .ok (.aload_n 0, 1) := by decide +kernel
theorem dX8_reads_38 : decode cX8_reads 38 = .ok (.aload_n 0, 1) := by decide +kernel
theorem dX8_reads_39 : decode cX8_reads 39 = .ok (.getfield 7, 3) := by decide +kernel
theorem dX8_reads_42 : decode cX8_reads 42 = .ok (.bipush 65, 2) := by decide +kernel
theorem dX8_reads_44 : decode cX8_reads 44 = .ok (.iaload, 1) := by decide +kernel
theorem dX8_reads_45 : decode cX8_reads 45 = .ok (.putfield 144, 3) := by decide +kernel
theorem dX8_reads_48 : decode cX8_reads 48 = .ok (.aload_n 0, 1) := by decide +kernel
theorem dX8_reads_49 : decode cX8_reads 49 = .ok (.invokevirtual 115, 3) := by decide +kernel
theorem dX8_reads_52 : decode cX8_reads 52 = .ok (.aload_n 0, 1) := by decide +kernel
theorem dX8_reads_53 : decode cX8_reads 53 = .ok (.invokevirtual 173, 3) := by decide +kernel
theorem dX8_reads_56 : decode cX8_reads 56 = .ok (.istore_n 2, 1) := by decide +kernel
theorem dX8_reads_57 : decode cX8_reads 57 = .ok (.iload_n 2, 1) := by decide +kernel
theorem dX8_reads_58 : decode cX8_reads 58 = .ok (.ifCond .eq 69, 3) := by decide +kernel
theorem dX8_reads_61 : decode cX8_reads 61 = .ok (.aload_n 0, 1) := by decide +kernel
theorem dX8_reads_62 : decode cX8_reads 62 = .ok (.getfield 105, 3) := by decide +kernel
theorem dX8_reads_65 : decode cX8_reads 65 = .ok (.aload_n 0, 1) := by decide +kernel
theorem dX8_reads_66 : decode cX8_reads 66 = .ok (.getfield 90, 3) := by decide +kernel
theorem dX8_reads_69 : decode cX8_reads 69 = .ok (.if_icmp .ge 58, 3) := by decide +kernel
theorem dX8_reads_72 : decode cX8_reads 72 = .ok (.aload_n 0, 1) := by decide +kernel
theorem dX8_reads_73 : decode cX8_reads 73 = .ok (.getfield 170, 3) := by decide +kernel
theorem dX8_reads_76 : decode cX8_reads 76 = .ok (.bipush 20, 2) := by decide +kernel
theorem dX8_reads_78 : decode cX8_reads 78 = .ok (.if_icmp .ge 21, 3) := by decide +kernel
theorem dX8_reads_81 : decode cX8_reads 81 = .ok (.aload_n 0, 1) := by decide +kernel
theorem dX8_reads_82 : decode cX8_reads 82 = .ok (.getfield 17, 3) := by decide +kernel
theorem dX8_reads_85 : decode cX8_reads 85 = .ok (.aload_n 0, 1) := by decide +kernel
theorem dX8_reads_86 : decode cX8_reads 86 = .ok (.getfield 105, 3) := by decide +kernel
theorem dX8_reads_89 : decode cX8_reads 89 = .ok (.iaload, 1) := by decide +kernel
theorem dX8_reads_90 : decode cX8_reads 90 = .ok (.bipush 59, 2) := by decide +kernel
theorem dX8_reads_92 : decode cX8_reads 92 = .ok (.if_icmp .ne 7, 3) := by decide +kernel
theorem dX8_reads_95 : decode cX8_reads 95 = .ok (.iconst 1, 1) := by decide +kernel
theorem dX8_reads_96 : decode cX8_reads 96 = .ok (.goto 4, 3) := by decide +kernel
theorem dX8_reads_99 : decode cX8_reads 99 = .ok (.iconst 0, 1) := by decide +kernel
theorem dX8_reads_100 : decode cX8_reads 100 = .ok (.istore_n 2, 1) := by decide +kernel
theorem dX8_reads_101 : decode cX8_reads 101 = .ok (.iload_n 2, 1) := by decide +kernel
theorem dX8_reads_102 : decode cX8_reads 102 = .ok (.ifCond .eq (-45), 3) := by decide +kernel
theorem dX8_reads_105 : decode cX8_reads 105 = .ok (.aload_n 0, 1) := by decide +kernel
theorem dX8_reads_106 : decode cX8_reads 106 = .ok (.invokevirtual 115, 3) := by decide +kernel
theorem dX8_reads_109 : decode cX8_reads 109 = .ok (.aload_n 0, 1) := by decide +kernel
theorem dX8_reads_110 : decode cX8_reads 110 = .ok (.invokevirtual 173, 3) := by decide +kernel
theorem dX8_reads_113 : decode cX8_reads 113 = .ok (.istore_n 2, 1) := by decide +kernel
theorem dX8_reads_114 : decode cX8_reads 114 = .ok (.aload_n 0, 1) := by decide +kernel
theorem dX8_reads_115 : decode cX8_reads 115 = .ok (.dup, 1) := by decide +kernel
theorem dX8_reads_116 : decode cX8_reads 116 = .ok (.getfield 170, 3) := by decide +kernel
theorem dX8_reads_119 : decode cX8_reads 119 = .ok (.iconst 1, 1) := by decide +kernel
theorem dX8_reads_120 : decode cX8_reads 120 = .ok (.iadd, 1) := by decide +kernel
theorem dX8_reads_121 : decode cX8_reads 121 = .ok (.putfield 170, 3) := by decide +kernel
theorem dX8_reads_124 : decode cX8_reads 124 = .ok (.goto (-67), 3) := by decide +kernel
theorem dX8_reads_127 : decode cX8_reads 127 = .ok (.iload_n 2, 1) := by decide +kernel
theorem dX8_reads_128 : decode cX8_reads 128 = .ok (.ireturn, 1) := by decide +kernel
set_option maxRecDepth 20000 in
theorem ggX8_fault_X8_reads : GoodIn wsX8_fault wsX8_reads := goodIn_r _ [6, 7, 8, 9, 10, 11, 12, 13, 1, 14, 15, 16, 17, 18, 5, 19, 20, 21, 22, 23, 24, 25, 26, 27, 28, 29, 30, 31, 32, 33, 34, 35, 36, 37, 38, 39, 40, 41, 42, 43, 44, 45, 46, 47, 48, 49, 50, 51, 52, 53, 54, 55, 56, 57, 58, 59, 60, 61, 62, 63, 64, 65, 66, 67, 68, 69, 70, 71, 72, 73, 74, 75, 76, 77, 78, 79, 80, 81, 82, 83, 84, 85, 86, 87, 88, 89, 90, 91, 92, 93, 94, 95, 96, 97, 98, 99, 100, 101, 102, 103, 104, 105, 106, 107, 108, 109, 110, 111, 112, 113, 114, 115, 116, 117, 118, 119, 120, 121, 122, 123, 124, 125] (by decide +kernel) (by decide +kernel)
set_option maxRecDepth 20000 in
theorem gX8_fault_X8_reads : GoodIn wsX8_fault (wsV RX8 176 RX8 yX8_reads wsX8_reads) := goodIn_app (goodIn_of _ (by decide +kernel)) ggX8_fault_X8_reads
theorem dX8_fault_0 : decode cX8_fault 0 = .ok (.aload_n 0, 1) := by decide +kernel
theorem dX8_fault_1 : decode cX8_fault 1 = .ok (.iconst 0, 1) := by decide +kernel
theorem dX8_fault_2 : decode cX8_fault 2 = .ok (.invokevirtual 176, 3) := by decide +kernel
theorem dX8_fault_5 : decode cX8_fault 5 = .ok (.ifCond .eq 7, 3) := by decide +kernel
theorem dX8_fault_8 : decode cX8_fault 8 = .ok (.iconst (-1), 1) := by decide +kernel
theorem dX8_fault_9 : decode cX8_fault 9 = .ok (.goto 7, 3) := by decide +kernel
theorem dX8_fault_12 : decode cX8_fault 12 = .ok (.aload_n 0, 1) := by decide +kernel
theorem dX8_fault_13 : decode cX8_fault 13 = .ok (.getfield 105, 3) := by decide +kernel
theorem dX8_fault_16 : decode cX8_fault 16 = .ok (.ireturn, 1) := by decide +kernel
theorem dX8_copyClub_0 : decode cX8_copyClub 0 = .ok (.iconst 0, 1) := by decide +kernel
theorem dX8_copyClub_1 : decode cX8_copyClub 1 = .ok (.istore_n 3, 1) := by decide +kernel
theorem dX8_copyClub_2 : decode cX8_copyClub 2 = .ok (.iload_n 3, 1) := by decide +kernel
theorem dX8_copyClub_3 : decode cX8_copyClub 3 = .ok (.bipush 48, 2) := by decide +kernel
theorem dX8_copyClub_5 : decode cX8_copyClub 5 = .ok (.if_icmp .ge 25, 3) := by decide +kernel
theorem dX8_copyClub_8 : decode cX8_copyClub 8 = .ok (.aload_n 0, 1) := by decide +kernel
theorem dX8_copyClub_9 : decode cX8_copyClub 9 = .ok (.getfield 7, 3) := by decide +kernel
theorem dX8_copyClub_12 : decode cX8_copyClub 12 = .ok (.iload_n 2, 1) := by decide +kernel
theorem dX8_copyClub_13 : decode cX8_copyClub 13 = .ok (.iload_n 3, 1) := by decide +kernel
theorem dX8_copyClub_14 : decode cX8_copyClub 14 = .ok (.iadd, 1) := by decide +kernel
theorem dX8_copyClub_15 : decode cX8_copyClub 15 = .ok (.aload_n 0, 1) := by decide +kernel
theorem dX8_copyClub_16 : decode cX8_copyClub 16 = .ok (.getfield 7, 3) := by decide +kernel
theorem dX8_copyClub_19 : decode cX8_copyClub 19 = .ok (.iload_n 1, 1) := by decide +kernel
theorem dX8_copyClub_20 : decode cX8_copyClub 20 = .ok (.iload_n 3, 1) := by decide +kernel
theorem dX8_copyClub_21 : decode cX8_copyClub 21 = .ok (.iadd, 1) := by decide +kernel
theorem dX8_copyClub_22 : decode cX8_copyClub 22 = .ok (.iaload, 1) := by decide +kernel
theorem dX8_copyClub_23 : decode cX8_copyClub 23 = .ok (.iastore, 1) := by decide +kernel
theorem dX8_copyClub_24 : decode cX8_copyClub 24 = .ok (.iinc 3 1, 3) := by decide +kernel
theorem dX8_copyClub_27 : decode cX8_copyClub 27 = .ok (.goto (-25), 3) := by decide +kernel
theorem dX8_copyClub_30 : decode cX8_copyClub 30 = .ok (.return_, 1) := by decide +kernel
set_option maxRecDepth 20000 in
theorem ggX8_club_X8_reads : GoodIn wsX8_club wsX8_reads := goodIn_r _ [10, 11, 12, 5, 13, 14, 15, 16, 17, 1, 18, 19, 20, 21, 9, 22, 23, 24, 25, 26, 27, 28, 29, 30, 31, 32, 33, 34, 35, 36, 37, 38, 39, 40, 41, 42, 43, 44, 45, 46, 47, 48, 49, 50, 51, 52, 53, 54, 55, 56, 57, 58, 59, 60, 61, 62, 63, 64, 65, 66, 67, 68, 69, 70, 71, 72, 73, 74, 75, 76, 77, 78, 79, 80, 81, 82, 83, 84, 85, 86, 87, 88, 89, 90, 91, 96, 97, 98, 99, 100, 101, 102, 103, 104, 105, 106, 107, 108, 109, 110, 111, 112, 113, 114, 115, 116, 117, 118, 119, 120, 121, 122, 123, 124, 125, 126, 127, 128, 129, 130, 131, 132] (by decide +kernel) (by decide +kernel)
