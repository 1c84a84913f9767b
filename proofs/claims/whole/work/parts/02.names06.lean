theorem dX6_takeFact_29 : decode cX6_takeFact 29 = .ok (.ireturn, 1) := by decide +kernel
theorem dX6_takeFact_30 : decode cX6_takeFact 30 = .ok (.aload_n 0, 1) := by decide +kernel
theorem dX6_takeFact_31 : decode cX6_takeFact 31 = .ok (.getfield 18, 3) := by decide +kernel
theorem dX6_takeFact_34 : decode cX6_takeFact 34 = .ok (.iload_n 1, 1) := by decide +kernel
theorem dX6_takeFact_35 : decode cX6_takeFact 35 = .ok (.invokevirtual 105, 3) := by decide +kernel
theorem dX6_takeFact_38 : decode cX6_takeFact 38 = .ok (.iconst 1, 1) := by decide +kernel
theorem dX6_takeFact_39 : decode cX6_takeFact 39 = .ok (.ireturn, 1) := by decide +kernel
set_option maxRecDepth 20000 in
theorem ggX6_takeMember_X6_step : GoodIn wsX6_takeMember wsX6_step := goodIn_r _ [8, 9, 10, 11, 12, 13, 14, 15, 7, 16, 17, 18, 19, 20, 46, 47, 48, 49, 50, 51, 52] (by decide +kernel) (by decide +kernel)
set_option maxRecDepth 20000 in
theorem gX6_takeMember_X6_step : GoodIn wsX6_takeMember (wsV RX6 43 RX6 yX6_step wsX6_step) := goodIn_app (goodIn_of _ (by decide +kernel)) ggX6_takeMember_X6_step
set_option maxRecDepth 20000 in
theorem ggX6_takeMember_X6_stepOverSet : GoodIn wsX6_takeMember wsX6_stepOverSet := goodIn_r _ [24, 10, 9, 12, 3, 13, 14, 15, 7, 16, 11, 25, 26, 27, 28, 29, 30, 4, 5, 6, 8, 17, 18, 19, 20, 46, 47, 48, 49, 50, 51, 52, 61, 62, 63, 64] (by decide +kernel) (by decide +kernel)
set_option maxRecDepth 20000 in
theorem gX6_takeMember_X6_stepOverSet : GoodIn wsX6_takeMember (wsV RX6 102 RX6 yX6_stepOverSet wsX6_stepOverSet) := goodIn_app (goodIn_of _ (by decide +kernel)) ggX6_takeMember_X6_stepOverSet
set_option maxRecDepth 20000 in
theorem ggX6_takeMember_X0_allOf : GoodIn wsX6_takeMember wsX0_allOf := goodIn_r _ [34, 30, 35, 36, 37, 38, 61, 62, 63, 64] (by decide +kernel) (by decide +kernel)
set_option maxRecDepth 20000 in
theorem gX6_takeMember_X0_allOf : GoodIn wsX6_takeMember (wsV RX6 112 RX0 yX0_allOf wsX0_allOf) := goodIn_app (goodIn_of _ (by decide +kernel)) ggX6_takeMember_X0_allOf
set_option maxRecDepth 20000 in
theorem ggX6_takeMember_X3_addMember : GoodIn wsX6_takeMember wsX3_addMember := goodIn_r _ [43, 44, 45, 53, 54, 55, 56, 57, 58, 59, 60] (by decide +kernel) (by decide +kernel)
set_option maxRecDepth 20000 in
theorem gX6_takeMember_X3_addMember : GoodIn wsX6_takeMember (wsV RX6 116 RX3 yX3_addMember wsX3_addMember) := goodIn_app (goodIn_of _ (by decide +kernel)) ggX6_takeMember_X3_addMember
theorem dX6_takeMember_0 : decode cX6_takeMember 0 = .ok (.aload_n 0, 1) := by decide +kernel
theorem dX6_takeMember_1 : decode cX6_takeMember 1 = .ok (.getfield 25, 3) := by decide +kernel
theorem dX6_takeMember_4 : decode cX6_takeMember 4 = .ok (.getfield 109, 3) := by decide +kernel
theorem dX6_takeMember_7 : decode cX6_takeMember 7 = .ok (.iconst 4, 1) := by decide +kernel
theorem dX6_takeMember_8 : decode cX6_takeMember 8 = .ok (.if_icmp .ne 5, 3) := by decide +kernel
theorem dX6_takeMember_11 : decode cX6_takeMember 11 = .ok (.iconst 0, 1) := by decide +kernel
theorem dX6_takeMember_12 : decode cX6_takeMember 12 = .ok (.ireturn, 1) := by decide +kernel
theorem dX6_takeMember_13 : decode cX6_takeMember 13 = .ok (.aload_n 0, 1) := by decide +kernel
theorem dX6_takeMember_14 : decode cX6_takeMember 14 = .ok (.invokevirtual 43, 3) := by decide +kernel
theorem dX6_takeMember_17 : decode cX6_takeMember 17 = .ok (.aload_n 0, 1) := by decide +kernel
theorem dX6_takeMember_18 : decode cX6_takeMember 18 = .ok (.invokevirtual 102, 3) := by decide +kernel
theorem dX6_takeMember_21 : decode cX6_takeMember 21 = .ok (.istore_n 1, 1) := by decide +kernel
theorem dX6_takeMember_22 : decode cX6_takeMember 22 = .ok (.iload_n 1, 1) := by decide +kernel
theorem dX6_takeMember_23 : decode cX6_takeMember 23 = .ok (.iconst (-1), 1) := by decide +kernel
theorem dX6_takeMember_24 : decode cX6_takeMember 24 = .ok (.if_icmp .ne 5, 3) := by decide +kernel
theorem dX6_takeMember_27 : decode cX6_takeMember 27 = .ok (.iconst 0, 1) := by decide +kernel
theorem dX6_takeMember_28 : decode cX6_takeMember 28 = .ok (.ireturn, 1) := by decide +kernel
theorem dX6_takeMember_29 : decode cX6_takeMember 29 = .ok (.aload_n 0, 1) := by decide +kernel
theorem dX6_takeMember_30 : decode cX6_takeMember 30 = .ok (.getfield 25, 3) := by decide +kernel
theorem dX6_takeMember_33 : decode cX6_takeMember 33 = .ok (.aload_n 0, 1) := by decide +kernel
theorem dX6_takeMember_34 : decode cX6_takeMember 34 = .ok (.getfield 18, 3) := by decide +kernel
theorem dX6_takeMember_37 : decode cX6_takeMember 37 = .ok (.iload_n 1, 1) := by decide +kernel
theorem dX6_takeMember_38 : decode cX6_takeMember 38 = .ok (.invokevirtual 112, 3) := by decide +kernel
theorem dX6_takeMember_41 : decode cX6_takeMember 41 = .ok (.invokevirtual 116, 3) := by decide +kernel
theorem dX6_takeMember_44 : decode cX6_takeMember 44 = .ok (.iconst 1, 1) := by decide +kernel
theorem dX6_takeMember_45 : decode cX6_takeMember 45 = .ok (.ireturn, 1) := by decide +kernel
set_option maxRecDepth 20000 in
theorem ggX6_takeLeech_X6_kindOfWord : GoodIn wsX6_takeLeech wsX6_kindOfWord := goodIn_r _ [7, 8, 9, 10, 6, 11, 12, 13, 14, 15, 16, 17, 18, 19, 20, 21, 22, 23, 24, 25, 26, 27, 28, 29, 30, 31, 32, 33, 34, 35, 36, 37, 38, 39, 40, 41, 42, 43, 44, 45, 46, 47, 48, 49, 50, 51, 52, 53, 54, 55, 56, 57, 58, 59, 60, 61, 62, 63, 86, 87, 88, 89, 90, 91, 92] (by decide +kernel) (by decide +kernel)
set_option maxRecDepth 20000 in
theorem gX6_takeLeech_X6_kindOfWord : GoodIn wsX6_takeLeech (wsV RX6 119 RX6 yX6_kindOfWord wsX6_kindOfWord) := goodIn_app (goodIn_of _ (by decide +kernel)) ggX6_takeLeech_X6_kindOfWord
set_option maxRecDepth 20000 in
theorem ggX6_takeLeech_X3_addLeech : GoodIn wsX6_takeLeech wsX3_addLeech := goodIn_r _ [68, 69, 70, 71, 72, 93, 94, 95, 96, 97, 98, 99, 100] (by decide +kernel) (by decide +kernel)
set_option maxRecDepth 20000 in
theorem gX6_takeLeech_X3_addLeech : GoodIn wsX6_takeLeech (wsV RX6 125 RX3 yX3_addLeech wsX3_addLeech) := goodIn_app (goodIn_of _ (by decide +kernel)) ggX6_takeLeech_X3_addLeech
set_option maxRecDepth 20000 in
theorem ggX6_takeLeech_X6_step : GoodIn wsX6_takeLeech wsX6_step := goodIn_r _ [76, 12, 13, 77, 14, 78, 79, 80, 6, 81, 82, 83, 84, 85, 86, 87, 88, 89, 90, 91, 92] (by decide +kernel) (by decide +kernel)
set_option maxRecDepth 20000 in
theorem gX6_takeLeech_X6_step : GoodIn wsX6_takeLeech (wsV RX6 43 RX6 yX6_step wsX6_step) := goodIn_app (goodIn_of _ (by decide +kernel)) ggX6_takeLeech_X6_step
theorem dX6_takeLeech_0 : decode cX6_takeLeech 0 = .ok (.aload_n 0, 1) := by decide +kernel
theorem dX6_takeLeech_1 : decode cX6_takeLeech 1 = .ok (.invokevirtual 119, 3) := by decide +kernel
theorem dX6_takeLeech_4 : decode cX6_takeLeech 4 = .ok (.istore_n 1, 1) := by decide +kernel
theorem dX6_takeLeech_5 : decode cX6_takeLeech 5 = .ok (.iload_n 1, 1) := by decide +kernel
theorem dX6_takeLeech_6 : decode cX6_takeLeech 6 = .ok (.iconst (-1), 1) := by decide +kernel
theorem dX6_takeLeech_7 : decode cX6_takeLeech 7 = .ok (.if_icmp .eq 14, 3) := by decide +kernel
theorem dX6_takeLeech_10 : decode cX6_takeLeech 10 = .ok (.aload_n 0, 1) := by decide +kernel
theorem dX6_takeLeech_11 : decode cX6_takeLeech 11 = .ok (.getfield 25, 3) := by decide +kernel
theorem dX6_takeLeech_14 : decode cX6_takeLeech 14 = .ok (.getfield 122, 3) := by decide +kernel
theorem dX6_takeLeech_17 : decode cX6_takeLeech 17 = .ok (.iconst 5, 1) := by decide +kernel
theorem dX6_takeLeech_18 : decode cX6_takeLeech 18 = .ok (.if_icmp .ne 5, 3) := by decide +kernel
theorem dX6_takeLeech_21 : decode cX6_takeLeech 21 = .ok (.iconst 0, 1) := by decide +kernel
theorem dX6_takeLeech_22 : decode cX6_takeLeech 22 = .ok (.ireturn, 1) := by decide +kernel
theorem dX6_takeLeech_23 : decode cX6_takeLeech 23 = .ok (.aload_n 0, 1) := by decide +kernel
theorem dX6_takeLeech_24 : decode cX6_takeLeech 24 = .ok (.getfield 25, 3) := by decide +kernel
theorem dX6_takeLeech_27 : decode cX6_takeLeech 27 = .ok (.iload_n 1, 1) := by decide +kernel
theorem dX6_takeLeech_28 : decode cX6_takeLeech 28 = .ok (.invokevirtual 125, 3) := by decide +kernel
theorem dX6_takeLeech_31 : decode cX6_takeLeech 31 = .ok (.aload_n 0, 1) := by decide +kernel
theorem dX6_takeLeech_32 : decode cX6_takeLeech 32 = .ok (.invokevirtual 43, 3) := by decide +kernel
theorem dX6_takeLeech_35 : decode cX6_takeLeech 35 = .ok (.iconst 1, 1) := by decide +kernel
theorem dX6_takeLeech_36 : decode cX6_takeLeech 36 = .ok (.ireturn, 1) := by decide +kernel
set_option maxRecDepth 20000 in
theorem ggX6_takeOn_X6_step : GoodIn wsX6_takeOn wsX6_step := goodIn_r _ [9, 10, 11, 12, 13, 14, 15, 16, 8, 17, 18, 19, 20, 21, 26, 27, 28, 29, 30, 31, 32] (by decide +kernel) (by decide +kernel)
set_option maxRecDepth 20000 in
theorem gX6_takeOn_X6_step : GoodIn wsX6_takeOn (wsV RX6 43 RX6 yX6_step wsX6_step) := goodIn_app (goodIn_of _ (by decide +kernel)) ggX6_takeOn_X6_step
set_option maxRecDepth 20000 in
theorem ggX6_takeOn_X6_numberBelow : GoodIn wsX6_takeOn wsX6_numberBelow := goodIn_r _ [25, 10, 11, 13, 18, 19, 20, 8, 21, 12, 26, 27, 28, 29, 30, 31, 32] (by decide +kernel) (by decide +kernel)
set_option maxRecDepth 20000 in
theorem gX6_takeOn_X6_numberBelow : GoodIn wsX6_takeOn (wsV RX6 128 RX6 yX6_numberBelow wsX6_numberBelow) := goodIn_app (goodIn_of _ (by decide +kernel)) ggX6_takeOn_X6_numberBelow
theorem dX6_takeOn_0 : decode cX6_takeOn 0 = .ok (.aload_n 0, 1) := by decide +kernel
theorem dX6_takeOn_1 : decode cX6_takeOn 1 = .ok (.invokevirtual 43, 3) := by decide +kernel
theorem dX6_takeOn_4 : decode cX6_takeOn 4 = .ok (.aload_n 0, 1) := by decide +kernel
theorem dX6_takeOn_5 : decode cX6_takeOn 5 = .ok (.aload_n 0, 1) := by decide +kernel
theorem dX6_takeOn_6 : decode cX6_takeOn 6 = .ok (.getfield 25, 3) := by decide +kernel
theorem dX6_takeOn_9 : decode cX6_takeOn 9 = .ok (.getfield 122, 3) := by decide +kernel
theorem dX6_takeOn_12 : decode cX6_takeOn 12 = .ok (.invokevirtual 128, 3) := by decide +kernel
theorem dX6_takeOn_15 : decode cX6_takeOn 15 = .ok (.istore_n 1, 1) := by decide +kernel
theorem dX6_takeOn_16 : decode cX6_takeOn 16 = .ok (.iload_n 1, 1) := by decide +kernel
theorem dX6_takeOn_17 : decode cX6_takeOn 17 = .ok (.iconst (-1), 1) := by decide +kernel
theorem dX6_takeOn_18 : decode cX6_takeOn 18 = .ok (.if_icmp .ne 5, 3) := by decide +kernel
theorem dX6_takeOn_21 : decode cX6_takeOn 21 = .ok (.iconst 0, 1) := by decide +kernel
theorem dX6_takeOn_22 : decode cX6_takeOn 22 = .ok (.ireturn, 1) := by decide +kernel
theorem dX6_takeOn_23 : decode cX6_takeOn 23 = .ok (.aload_n 0, 1) := by decide +kernel
theorem dX6_takeOn_24 : decode cX6_takeOn 24 = .ok (.invokevirtual 43, 3) := by decide +kernel
theorem dX6_takeOn_27 : decode cX6_takeOn 27 = .ok (.aload_n 0, 1) := by decide +kernel
theorem dX6_takeOn_28 : decode cX6_takeOn 28 = .ok (.aload_n 0, 1) := by decide +kernel
theorem dX6_takeOn_29 : decode cX6_takeOn 29 = .ok (.getfield 25, 3) := by decide +kernel
theorem dX6_takeOn_32 : decode cX6_takeOn 32 = .ok (.getfield 109, 3) := by decide +kernel
theorem dX6_takeOn_35 : decode cX6_takeOn 35 = .ok (.invokevirtual 128, 3) := by decide +kernel
theorem dX6_takeOn_38 : decode cX6_takeOn 38 = .ok (.istore_n 2, 1) := by decide +kernel
theorem dX6_takeOn_39 : decode cX6_takeOn 39 = .ok (.iload_n 2, 1) := by decide +kernel
theorem dX6_takeOn_40 : decode cX6_takeOn 40 = .ok (.iconst (-1), 1) := by decide +kernel
theorem dX6_takeOn_41 : decode cX6_takeOn 41 = .ok (.if_icmp .ne 5, 3) := by decide +kernel
theorem dX6_takeOn_44 : decode cX6_takeOn 44 = .ok (.iconst 0, 1) := by decide +kernel
theorem dX6_takeOn_45 : decode cX6_takeOn 45 = .ok (.ireturn, 1) := by decide +kernel
theorem dX6_takeOn_46 : decode cX6_takeOn 46 = .ok (.aload_n 0, 1) := by decide +kernel
theorem dX6_takeOn_47 : decode cX6_takeOn 47 = .ok (.getfield 25, 3) := by decide +kernel
theorem dX6_takeOn_50 : decode cX6_takeOn 50 = .ok (.getfield 131, 3) := by decide +kernel
theorem dX6_takeOn_53 : decode cX6_takeOn 53 = .ok (.iload_n 1, 1) := by decide +kernel
theorem dX6_takeOn_54 : decode cX6_takeOn 54 = .ok (.iload_n 2, 1) := by decide +kernel
theorem dX6_takeOn_55 : decode cX6_takeOn 55 = .ok (.iastore, 1) := by decide +kernel
theorem dX6_takeOn_56 : decode cX6_takeOn 56 = .ok (.aload_n 0, 1) := by decide +kernel
theorem dX6_takeOn_57 : decode cX6_takeOn 57 = .ok (.invokevirtual 43, 3) := by decide +kernel
theorem dX6_takeOn_60 : decode cX6_takeOn 60 = .ok (.iconst 1, 1) := by decide +kernel
theorem dX6_takeOn_61 : decode cX6_takeOn 61 = .ok (.ireturn, 1) := by decide +kernel
set_option maxRecDepth 20000 in
theorem ggX6_kindOfWord_X6_isWord : GoodIn wsX6_kindOfWord wsX6_isWord := goodIn_r _ [5, 6, 7, 8, 9, 10, 11, 12, 13, 14, 15, 16, 17, 18, 19, 20, 21, 22, 23, 24, 25, 26, 27, 28, 29, 30, 31, 32, 33, 34, 35, 36, 37, 38, 39, 40, 41, 42, 43, 44, 45, 46, 47, 48, 49, 50, 51, 52, 53, 54, 55, 56, 57, 58, 59, 60, 61, 62, 63, 64] (by decide +kernel) (by decide +kernel)
set_option maxRecDepth 20000 in
theorem gX6_kindOfWord_X6_isWord : GoodIn wsX6_kindOfWord (wsV RX6 74 RX6 yX6_isWord wsX6_isWord) := goodIn_app (goodIn_of _ (by decide +kernel)) ggX6_kindOfWord_X6_isWord
theorem dX6_kindOfWord_0 : decode cX6_kindOfWord 0 = .ok (.aload_n 0, 1) := by decide +kernel
theorem dX6_kindOfWord_1 : decode cX6_kindOfWord 1 = .ok (.ldc 133, 2) := by decide +kernel
theorem dX6_kindOfWord_3 : decode cX6_kindOfWord 3 = .ok (.invokevirtual 74, 3) := by decide +kernel
theorem dX6_kindOfWord_6 : decode cX6_kindOfWord 6 = .ok (.ifCond .eq 5, 3) := by decide +kernel
theorem dX6_kindOfWord_9 : decode cX6_kindOfWord 9 = .ok (.iconst 0, 1) := by decide +kernel
theorem dX6_kindOfWord_10 : decode cX6_kindOfWord 10 = .ok (.ireturn, 1) := by decide +kernel
theorem dX6_kindOfWord_11 : decode cX6_kindOfWord 11 = .ok (.aload_n 0, 1) := by decide +kernel
theorem dX6_kindOfWord_12 : decode cX6_kindOfWord 12 = .ok (.ldc 135, 2) := by decide +kernel
theorem dX6_kindOfWord_14 : decode cX6_kindOfWord 14 = .ok (.invokevirtual 74, 3) := by decide +kernel
theorem dX6_kindOfWord_17 : decode cX6_kindOfWord 17 = .ok (.ifCond .eq 5, 3) := by decide +kernel
theorem dX6_kindOfWord_20 : decode cX6_kindOfWord 20 = .ok (.iconst 1, 1) := by decide +kernel
theorem dX6_kindOfWord_21 : decode cX6_kindOfWord 21 = .ok (.ireturn, 1) := by decide +kernel
theorem dX6_kindOfWord_22 : decode cX6_kindOfWord 22 = .ok (.aload_n 0, 1) := by decide +kernel
theorem dX6_kindOfWord_23 : decode cX6_kindOfWord 23 = .ok (.ldc 137, 2) := by decide +kernel
theorem dX6_kindOfWord_25 : decode cX6_kindOfWord 25 = .ok (.invokevirtual 74, 3) := by decide +kernel
theorem dX6_kindOfWord_28 : decode cX6_kindOfWord 28 = .ok (.ifCond .eq 5, 3) := by decide +kernel
theorem dX6_kindOfWord_31 : decode cX6_kindOfWord 31 = .ok (.iconst 2, 1) := by decide +kernel
theorem dX6_kindOfWord_32 : decode cX6_kindOfWord 32 = .ok (.ireturn, 1) := by decide +kernel
theorem dX6_kindOfWord_33 : decode cX6_kindOfWord 33 = .ok (.aload_n 0, 1) := by decide +kernel
theorem dX6_kindOfWord_34 : decode cX6_kindOfWord 34 = .ok (.ldc 139, 2) := by decide +kernel
theorem dX6_kindOfWord_36 : decode cX6_kindOfWord 36 = .ok (.invokevirtual 74, 3) := by decide +kernel
theorem dX6_kindOfWord_39 : decode cX6_kindOfWord 39 = .ok (.ifCond .eq 5, 3) := by decide +kernel
theorem dX6_kindOfWord_42 : decode cX6_kindOfWord 42 = .ok (.iconst 3, 1) := by decide +kernel
theorem dX6_kindOfWord_43 : decode cX6_kindOfWord 43 = .ok (.ireturn, 1) := by decide +kernel
theorem dX6_kindOfWord_44 : decode cX6_kindOfWord 44 = .ok (.aload_n 0, 1) := by decide +kernel
theorem dX6_kindOfWord_45 : decode cX6_kindOfWord 45 = .ok (.ldc 141, 2) := by decide +kernel
theorem dX6_kindOfWord_47 : decode cX6_kindOfWord 47 = .ok (.invokevirtual 74, 3) := by decide +kernel
theorem dX6_kindOfWord_50 : decode cX6_kindOfWord 50 = .ok (.ifCond .eq 7, 3) := by decide +kernel
theorem dX6_kindOfWord_53 : decode cX6_kindOfWord 53 = .ok (.iconst 4, 1) := by decide +kernel
theorem dX6_kindOfWord_54 : decode cX6_kindOfWord 54 = .ok (.goto 4, 3) := by decide +kernel
theorem dX6_kindOfWord_57 : decode cX6_kindOfWord 57 = .ok (.iconst (-1), 1) := by decide +kernel
theorem dX6_kindOfWord_58 : decode cX6_kindOfWord 58 = .ok (.ireturn, 1) := by decide +kernel
set_option maxRecDepth 20000 in
theorem ggX6_stepOverSet_X6_isSmall : GoodIn wsX6_stepOverSet wsX6_isSmall := goodIn_r _ [9, 10, 3, 25, 26, 27, 28, 29, 30, 31] (by decide +kernel) (by decide +kernel)
set_option maxRecDepth 20000 in
theorem gX6_stepOverSet_X6_isSmall : GoodIn wsX6_stepOverSet (wsV RX6 56 RX6 yX6_isSmall wsX6_isSmall) := goodIn_app (goodIn_of _ (by decide +kernel)) ggX6_stepOverSet_X6_isSmall
set_option maxRecDepth 20000 in
theorem ggX6_stepOverSet_X0_hasFact : GoodIn wsX6_stepOverSet wsX0_hasFact := goodIn_r _ [15, 16, 32, 33, 34, 35] (by decide +kernel) (by decide +kernel)
set_option maxRecDepth 20000 in
theorem gX6_stepOverSet_X0_hasFact : GoodIn wsX6_stepOverSet (wsV RX6 143 RX0 yX0_hasFact wsX0_hasFact) := goodIn_app (goodIn_of _ (by decide +kernel)) ggX6_stepOverSet_X0_hasFact
set_option maxRecDepth 20000 in
theorem ggX6_stepOverSet_X6_step : GoodIn wsX6_stepOverSet wsX6_step := goodIn_r _ [20, 2, 1, 10, 3, 5, 6, 7, 8, 9, 21, 22, 23, 24, 25, 26, 27, 28, 29, 30, 31] (by decide +kernel) (by decide +kernel)
set_option maxRecDepth 20000 in
theorem gX6_stepOverSet_X6_step : GoodIn wsX6_stepOverSet (wsV RX6 43 RX6 yX6_step wsX6_step) := goodIn_app (goodIn_of _ (by decide +kernel)) ggX6_stepOverSet_X6_step
theorem dX6_stepOverSet_0 : decode cX6_stepOverSet 0 = .ok (.aload_n 0, 1) := by decide +kernel
theorem dX6_stepOverSet_1 : decode cX6_stepOverSet 1 = .ok (.aload_n 0, 1) := by decide +kernel
theorem dX6_stepOverSet_2 : decode cX6_stepOverSet 2 = .ok (.getfield 50, 3) := by decide +kernel
theorem dX6_stepOverSet_5 : decode cX6_stepOverSet 5 = .ok (.invokevirtual 56, 3) := by decide +kernel
theorem dX6_stepOverSet_8 : decode cX6_stepOverSet 8 = .ok (.ifCond .ne 5, 3) := by decide +kernel
theorem dX6_stepOverSet_11 : decode cX6_stepOverSet 11 = .ok (.iconst 0, 1) := by decide +kernel
theorem dX6_stepOverSet_12 : decode cX6_stepOverSet 12 = .ok (.ireturn, 1) := by decide +kernel
theorem dX6_stepOverSet_13 : decode cX6_stepOverSet 13 = .ok (.iconst 0, 1) := by decide +kernel
theorem dX6_stepOverSet_14 : decode cX6_stepOverSet 14 = .ok (.istore_n 1, 1) := by decide +kernel
theorem dX6_stepOverSet_15 : decode cX6_stepOverSet 15 = .ok (.aload_n 0, 1) := by decide +kernel
theorem dX6_stepOverSet_16 : decode cX6_stepOverSet 16 = .ok (.getfield 50, 3) := by decide +kernel
theorem dX6_stepOverSet_19 : decode cX6_stepOverSet 19 = .ok (.istore_n 2, 1) := by decide +kernel
theorem dX6_stepOverSet_20 : decode cX6_stepOverSet 20 = .ok (.iload_n 2, 1) := by decide +kernel
theorem dX6_stepOverSet_21 : decode cX6_stepOverSet 21 = .ok (.aload_n 0, 1) := by decide +kernel
theorem dX6_stepOverSet_22 : decode cX6_stepOverSet 22 = .ok (.getfield 40, 3) := by decide +kernel
theorem dX6_stepOverSet_25 : decode cX6_stepOverSet 25 = .ok (.if_icmp .ge 57, 3) := by decide +kernel
theorem dX6_stepOverSet_28 : decode cX6_stepOverSet 28 = .ok (.aload_n 0, 1) := by decide +kernel
theorem dX6_stepOverSet_29 : decode cX6_stepOverSet 29 = .ok (.getfield 9, 3) := by decide +kernel
theorem dX6_stepOverSet_32 : decode cX6_stepOverSet 32 = .ok (.iload_n 2, 1) := by decide +kernel
theorem dX6_stepOverSet_33 : decode cX6_stepOverSet 33 = .ok (.iaload, 1) := by decide +kernel
theorem dX6_stepOverSet_34 : decode cX6_stepOverSet 34 = .ok (.bipush 97, 2) := by decide +kernel
theorem dX6_stepOverSet_36 : decode cX6_stepOverSet 36 = .ok (.isub, 1) := by decide +kernel
theorem dX6_stepOverSet_37 : decode cX6_stepOverSet 37 = .ok (.istore_n 3, 1) := by decide +kernel
theorem dX6_stepOverSet_38 : decode cX6_stepOverSet 38 = .ok (.iload_n 1, 1) := by decide +kernel
theorem dX6_stepOverSet_39 : decode cX6_stepOverSet 39 = .ok (.iconst 1, 1) := by decide +kernel
theorem dX6_stepOverSet_40 : decode cX6_stepOverSet 40 = .ok (.iload_n 3, 1) := by decide +kernel
theorem dX6_stepOverSet_41 : decode cX6_stepOverSet 41 = .ok (.ishl, 1) := by decide +kernel
theorem dX6_stepOverSet_42 : decode cX6_stepOverSet 42 = .ok (.if_icmp .ge 7, 3) := by decide +kernel
theorem dX6_stepOverSet_45 : decode cX6_stepOverSet 45 = .ok (.iconst 1, 1) := by decide +kernel
theorem dX6_stepOverSet_46 : decode cX6_stepOverSet 46 = .ok (.goto 4, 3) := by decide +kernel
theorem dX6_stepOverSet_49 : decode cX6_stepOverSet 49 = .ok (.iconst 0, 1) := by decide +kernel
theorem dX6_stepOverSet_50 : decode cX6_stepOverSet 50 = .ok (.istore 4, 2) := by decide +kernel
theorem dX6_stepOverSet_52 : decode cX6_stepOverSet 52 = .ok (.aload_n 0, 1) := by decide +kernel
theorem dX6_stepOverSet_53 : decode cX6_stepOverSet 53 = .ok (.getfield 18, 3) := by decide +kernel
theorem dX6_stepOverSet_56 : decode cX6_stepOverSet 56 = .ok (.iload_n 3, 1) := by decide +kernel
theorem dX6_stepOverSet_57 : decode cX6_stepOverSet 57 = .ok (.invokevirtual 143, 3) := by decide +kernel
theorem dX6_stepOverSet_60 : decode cX6_stepOverSet 60 = .ok (.ifCond .eq 8, 3) := by decide +kernel
theorem dX6_stepOverSet_63 : decode cX6_stepOverSet 63 = .ok (.iload 4, 2) := by decide +kernel
theorem dX6_stepOverSet_65 : decode cX6_stepOverSet 65 = .ok (.ifCond .ne 5, 3) := by decide +kernel
theorem dX6_stepOverSet_68 : decode cX6_stepOverSet 68 = .ok (.iconst (-1), 1) := by decide +kernel
theorem dX6_stepOverSet_69 : decode cX6_stepOverSet 69 = .ok (.ireturn, 1) := by decide +kernel
theorem dX6_stepOverSet_70 : decode cX6_stepOverSet 70 = .ok (.iload_n 1, 1) := by decide +kernel
theorem dX6_stepOverSet_71 : decode cX6_stepOverSet 71 = .ok (.iconst 1, 1) := by decide +kernel
theorem dX6_stepOverSet_72 : decode cX6_stepOverSet 72 = .ok (.iload_n 3, 1) := by decide +kernel
theorem dX6_stepOverSet_73 : decode cX6_stepOverSet 73 = .ok (.ishl, 1) := by decide +kernel
theorem dX6_stepOverSet_74 : decode cX6_stepOverSet 74 = .ok (.ior, 1) := by decide +kernel
theorem dX6_stepOverSet_75 : decode cX6_stepOverSet 75 = .ok (.istore_n 1, 1) := by decide +kernel
theorem dX6_stepOverSet_76 : decode cX6_stepOverSet 76 = .ok (.iinc 2 1, 3) := by decide +kernel
theorem dX6_stepOverSet_79 : decode cX6_stepOverSet 79 = .ok (.goto (-59), 3) := by decide +kernel
theorem dX6_stepOverSet_82 : decode cX6_stepOverSet 82 = .ok (.aload_n 0, 1) := by decide +kernel
theorem dX6_stepOverSet_83 : decode cX6_stepOverSet 83 = .ok (.invokevirtual 43, 3) := by decide +kernel
theorem dX6_stepOverSet_86 : decode cX6_stepOverSet 86 = .ok (.iload_n 1, 1) := by decide +kernel
theorem dX6_stepOverSet_87 : decode cX6_stepOverSet 87 = .ok (.ireturn, 1) := by decide +kernel
set_option maxRecDepth 20000 in
theorem ggX6_numberBelow_X6_isDigit : GoodIn wsX6_numberBelow wsX6_isDigit := goodIn_r _ [8, 9, 3, 10, 11, 12, 13, 14, 15, 16] (by decide +kernel) (by decide +kernel)
set_option maxRecDepth 20000 in
theorem gX6_numberBelow_X6_isDigit : GoodIn wsX6_numberBelow (wsV RX6 60 RX6 yX6_isDigit wsX6_isDigit) := goodIn_app (goodIn_of _ (by decide +kernel)) ggX6_numberBelow_X6_isDigit
theorem dX6_numberBelow_0 : decode cX6_numberBelow 0 = .ok (.aload_n 0, 1) := by decide +kernel
theorem dX6_numberBelow_1 : decode cX6_numberBelow 1 = .ok (.getfield 40, 3) := by decide +kernel
theorem dX6_numberBelow_4 : decode cX6_numberBelow 4 = .ok (.aload_n 0, 1) := by decide +kernel
theorem dX6_numberBelow_5 : decode cX6_numberBelow 5 = .ok (.getfield 50, 3) := by decide +kernel
theorem dX6_numberBelow_8 : decode cX6_numberBelow 8 = .ok (.isub, 1) := by decide +kernel
theorem dX6_numberBelow_9 : decode cX6_numberBelow 9 = .ok (.iconst 1, 1) := by decide +kernel
theorem dX6_numberBelow_10 : decode cX6_numberBelow 10 = .ok (.if_icmp .ne 14, 3) := by decide +kernel
theorem dX6_numberBelow_13 : decode cX6_numberBelow 13 = .ok (.aload_n 0, 1) := by decide +kernel
theorem dX6_numberBelow_14 : decode cX6_numberBelow 14 = .ok (.aload_n 0, 1) := by decide +kernel
theorem dX6_numberBelow_15 : decode cX6_numberBelow 15 = .ok (.getfield 50, 3) := by decide +kernel
theorem dX6_numberBelow_18 : decode cX6_numberBelow 18 = .ok (.invokevirtual 60, 3) := by decide +kernel
theorem dX6_numberBelow_21 : decode cX6_numberBelow 21 = .ok (.ifCond .ne 5, 3) := by decide +kernel
theorem dX6_numberBelow_24 : decode cX6_numberBelow 24 = .ok (.iconst (-1), 1) := by decide +kernel
theorem dX6_numberBelow_25 : decode cX6_numberBelow 25 = .ok (.ireturn, 1) := by decide +kernel
theorem dX6_numberBelow_26 : decode cX6_numberBelow 26 = .ok (.aload_n 0, 1) := by decide +kernel
theorem dX6_numberBelow_27 : decode cX6_numberBelow 27 = .ok (.getfield 9, 3) := by decide +kernel
theorem dX6_numberBelow_30 : decode cX6_numberBelow 30 = .ok (.aload_n 0, 1) := by decide +kernel
theorem dX6_numberBelow_31 : decode cX6_numberBelow 31 = .ok (.getfield 50, 3) := by decide +kernel
theorem dX6_numberBelow_34 : decode cX6_numberBelow 34 = .ok (.iaload, 1) := by decide +kernel
theorem dX6_numberBelow_35 : decode cX6_numberBelow 35 = .ok (.bipush 48, 2) := by decide +kernel
theorem dX6_numberBelow_37 : decode cX6_numberBelow 37 = .ok (.isub, 1) := by decide +kernel
theorem dX6_numberBelow_38 : decode cX6_numberBelow 38 = .ok (.istore_n 2, 1) := by decide +kernel
theorem dX6_numberBelow_39 : decode cX6_numberBelow 39 = .ok (.iload_n 2, 1) := by decide +kernel
theorem dX6_numberBelow_40 : decode cX6_numberBelow 40 = .ok (.iload_n 1, 1) := by decide +kernel
theorem dX6_numberBelow_41 : decode cX6_numberBelow 41 = .ok (.if_icmp .ge 7, 3) := by decide +kernel
theorem dX6_numberBelow_44 : decode cX6_numberBelow 44 = .ok (.iload_n 2, 1) := by decide +kernel
theorem dX6_numberBelow_45 : decode cX6_numberBelow 45 = .ok (.goto 4, 3) := by decide +kernel
theorem dX6_numberBelow_48 : decode cX6_numberBelow 48 = .ok (.iconst (-1), 1) := by decide +kernel
theorem dX6_numberBelow_49 : decode cX6_numberBelow 49 = .ok (.ireturn, 1) := by decide +kernel
set_option maxRecDepth 20000 in
theorem ggX7_init_X6_init : GoodIn wsX7_init wsX6_init := goodIn_r _ [37, 38, 2, 3, 39, 40, 41, 9, 10, 42, 43, 13, 14, 44, 45, 46, 47, 48, 49, 50, 51, 52, 53, 54, 55, 56, 57, 84, 85, 86, 87, 88, 89, 90, 104, 105, 106, 107, 108, 109, 110, 111, 112, 113, 114, 115] (by decide +kernel) (by decide +kernel)
set_option maxRecDepth 20000 in
theorem gX7_init_X6_init_n9 : GoodIn wsX7_init (wsX6_init) := ggX7_init_X6_init
set_option maxRecDepth 20000 in
theorem ggX7_init_X0_init : GoodIn wsX7_init wsX0_init := goodIn_r _ [46, 47, 2, 3, 39, 48, 49, 50, 104, 105, 106, 107] (by decide +kernel) (by decide +kernel)
set_option maxRecDepth 20000 in
theorem gX7_init_X0_init_n18 : GoodIn wsX7_init (wsX0_init) := ggX7_init_X0_init
set_option maxRecDepth 20000 in
theorem ggX7_init_X3_init : GoodIn wsX7_init wsX3_init := goodIn_r _ [52, 53, 2, 3, 39, 54, 55, 56, 57, 108, 109, 110, 111, 112, 113, 114, 115] (by decide +kernel) (by decide +kernel)
set_option maxRecDepth 20000 in
theorem gX7_init_X3_init_n25 : GoodIn wsX7_init (wsX3_init) := ggX7_init_X3_init
set_option maxRecDepth 20000 in
theorem ggX7_init_X4_init : GoodIn wsX7_init wsX4_init := goodIn_r _ [59, 60, 2, 3, 39, 61, 62, 63, 64, 116, 117, 118, 119, 120] (by decide +kernel) (by decide +kernel)
set_option maxRecDepth 20000 in
theorem gX7_init_X4_init_n45 : GoodIn wsX7_init (wsX4_init) := ggX7_init_X4_init
set_option maxRecDepth 20000 in
theorem ggX7_init_X2_init : GoodIn wsX7_init wsX2_init := goodIn_r _ [66, 67, 2, 3, 68, 39, 69, 70, 71, 72, 121, 122, 123, 124, 125, 126, 127, 128, 129] (by decide +kernel) (by decide +kernel)
set_option maxRecDepth 20000 in
theorem gX7_init_X2_init_n52 : GoodIn wsX7_init (wsX2_init) := ggX7_init_X2_init
set_option maxRecDepth 20000 in
theorem ggX7_init_X1_init : GoodIn wsX7_init wsX1_init := goodIn_r _ [74, 75, 2, 3, 76, 130, 131] (by decide +kernel) (by decide +kernel)
set_option maxRecDepth 20000 in
theorem gX7_init_X1_init_n65 : GoodIn wsX7_init (wsX1_init) := ggX7_init_X1_init
set_option maxRecDepth 20000 in
theorem ggX7_init_X5_init : GoodIn wsX7_init wsX5_init := goodIn_r _ [78, 79, 2, 3, 80, 81, 82, 83, 132, 133, 134, 135] (by decide +kernel) (by decide +kernel)
set_option maxRecDepth 20000 in
theorem gX7_init_X5_init_n70 : GoodIn wsX7_init (wsX5_init) := ggX7_init_X5_init
theorem dX7_init_0 : decode cX7_init 0 = .ok (.aload_n 0, 1) := by decide +kernel
theorem dX7_init_1 : decode cX7_init 1 = .ok (.invokespecial 1, 3) := by decide +kernel
theorem dX7_init_4 : decode cX7_init 4 = .ok (.aload_n 0, 1) := by decide +kernel
theorem dX7_init_5 : decode cX7_init 5 = .ok (.new 7, 3) := by decide +kernel
theorem dX7_init_8 : decode cX7_init 8 = .ok (.dup, 1) := by decide +kernel
theorem dX7_init_9 : decode cX7_init 9 = .ok (.invokespecial 9, 3) := by decide +kernel
theorem dX7_init_12 : decode cX7_init 12 = .ok (.putfield 10, 3) := by decide +kernel
theorem dX7_init_15 : decode cX7_init 15 = .ok (.aload_n 0, 1) := by decide +kernel
theorem dX7_init_16 : decode cX7_init 16 = .ok (.new 16, 3) := by decide +kernel
theorem dX7_init_19 : decode cX7_init 19 = .ok (.dup, 1) := by decide +kernel
theorem dX7_init_20 : decode cX7_init 20 = .ok (.invokespecial 18, 3) := by decide +kernel
theorem dX7_init_23 : decode cX7_init 23 = .ok (.putfield 19, 3) := by decide +kernel
theorem dX7_init_26 : decode cX7_init 26 = .ok (.aload_n 0, 1) := by decide +kernel
theorem dX7_init_27 : decode cX7_init 27 = .ok (.new 23, 3) := by decide +kernel
theorem dX7_init_30 : decode cX7_init 30 = .ok (.dup, 1) := by decide +kernel
theorem dX7_init_31 : decode cX7_init 31 = .ok (.invokespecial 25, 3) := by decide +kernel
theorem dX7_init_34 : decode cX7_init 34 = .ok (.putfield 26, 3) := by decide +kernel
theorem dX7_init_37 : decode cX7_init 37 = .ok (.aload_n 0, 1) := by decide +kernel
theorem dX7_init_38 : decode cX7_init 38 = .ok (.new 23, 3) := by decide +kernel
theorem dX7_init_41 : decode cX7_init 41 = .ok (.dup, 1) := by decide +kernel
theorem dX7_init_42 : decode cX7_init 42 = .ok (.invokespecial 25, 3) := by decide +kernel
theorem dX7_init_45 : decode cX7_init 45 = .ok (.putfield 30, 3) := by decide +kernel
theorem dX7_init_48 : decode cX7_init 48 = .ok (.aload_n 0, 1) := by decide +kernel
theorem dX7_init_49 : decode cX7_init 49 = .ok (.new 23, 3) := by decide +kernel
theorem dX7_init_52 : decode cX7_init 52 = .ok (.dup, 1) := by decide +kernel
theorem dX7_init_53 : decode cX7_init 53 = .ok (.invokespecial 25, 3) := by decide +kernel
theorem dX7_init_56 : decode cX7_init 56 = .ok (.putfield 33, 3) := by decide +kernel
theorem dX7_init_59 : decode cX7_init 59 = .ok (.aload_n 0, 1) := by decide +kernel
theorem dX7_init_60 : decode cX7_init 60 = .ok (.bipush 8, 2) := by decide +kernel
theorem dX7_init_62 : decode cX7_init 62 = .ok (.anewarray 23, 3) := by decide +kernel
theorem dX7_init_65 : decode cX7_init 65 = .ok (.putfield 36, 3) := by decide +kernel
theorem dX7_init_68 : decode cX7_init 68 = .ok (.aload_n 0, 1) := by decide +kernel
theorem dX7_init_69 : decode cX7_init 69 = .ok (.iconst 2, 1) := by decide +kernel
theorem dX7_init_70 : decode cX7_init 70 = .ok (.anewarray 23, 3) := by decide +kernel
theorem dX7_init_73 : decode cX7_init 73 = .ok (.putfield 40, 3) := by decide +kernel
theorem dX7_init_76 : decode cX7_init 76 = .ok (.aload_n 0, 1) := by decide +kernel
theorem dX7_init_77 : decode cX7_init 77 = .ok (.new 43, 3) := by decide +kernel
theorem dX7_init_80 : decode cX7_init 80 = .ok (.dup, 1) := by decide +kernel
theorem dX7_init_81 : decode cX7_init 81 = .ok (.invokespecial 45, 3) := by decide +kernel
theorem dX7_init_84 : decode cX7_init 84 = .ok (.putfield 46, 3) := by decide +kernel
theorem dX7_init_87 : decode cX7_init 87 = .ok (.aload_n 0, 1) := by decide +kernel
theorem dX7_init_88 : decode cX7_init 88 = .ok (.new 50, 3) := by decide +kernel
theorem dX7_init_91 : decode cX7_init 91 = .ok (.dup, 1) := by decide +kernel
theorem dX7_init_92 : decode cX7_init 92 = .ok (.invokespecial 52, 3) := by decide +kernel
theorem dX7_init_95 : decode cX7_init 95 = .ok (.putfield 53, 3) := by decide +kernel
theorem dX7_init_98 : decode cX7_init 98 = .ok (.aload_n 0, 1) := by decide +kernel
theorem dX7_init_99 : decode cX7_init 99 = .ok (.iconst 4, 1) := by decide +kernel
theorem dX7_init_100 : decode cX7_init 100 = .ok (.anewarray 57, 3) := by decide +kernel
theorem dX7_init_103 : decode cX7_init 103 = .ok (.putfield 59, 3) := by decide +kernel
theorem dX7_init_106 : decode cX7_init 106 = .ok (.aload_n 0, 1) := by decide +kernel
theorem dX7_init_107 : decode cX7_init 107 = .ok (.new 63, 3) := by decide +kernel
theorem dX7_init_110 : decode cX7_init 110 = .ok (.dup, 1) := by decide +kernel
theorem dX7_init_111 : decode cX7_init 111 = .ok (.invokespecial 65, 3) := by decide +kernel
theorem dX7_init_114 : decode cX7_init 114 = .ok (.putfield 66, 3) := by decide +kernel
theorem dX7_init_117 : decode cX7_init 117 = .ok (.iconst 0, 1) := by decide +kernel
theorem dX7_init_118 : decode cX7_init 118 = .ok (.istore_n 1, 1) := by decide +kernel
theorem dX7_init_119 : decode cX7_init 119 = .ok (.iload_n 1, 1) := by decide +kernel
theorem dX7_init_120 : decode cX7_init 120 = .ok (.bipush 8, 2) := by decide +kernel
theorem dX7_init_122 : decode cX7_init 122 = .ok (.if_icmp .ge 22, 3) := by decide +kernel
theorem dX7_init_125 : decode cX7_init 125 = .ok (.aload_n 0, 1) := by decide +kernel
theorem dX7_init_126 : decode cX7_init 126 = .ok (.getfield 36, 3) := by decide +kernel
theorem dX7_init_129 : decode cX7_init 129 = .ok (.iload_n 1, 1) := by decide +kernel
theorem dX7_init_130 : decode cX7_init 130 = .ok (.new 23, 3) := by decide +kernel
theorem dX7_init_133 : decode cX7_init 133 = .ok (.dup, 1) := by decide +kernel
theorem dX7_init_134 : decode cX7_init 134 = .ok (.invokespecial 25, 3) := by decide +kernel
theorem dX7_init_137 : decode cX7_init 137 = .ok (.aastore, 1) := by decide +kernel
theorem dX7_init_138 : decode cX7_init 138 = .ok (.iinc 1 1, 3) := by decide +kernel
theorem dX7_init_141 : decode cX7_init 141 = .ok (.goto (-22), 3) := by decide +kernel
theorem dX7_init_144 : decode cX7_init 144 = .ok (.iconst 0, 1) := by decide +kernel
theorem dX7_init_145 : decode cX7_init 145 = .ok (.istore_n 1, 1) := by decide +kernel
theorem dX7_init_146 : decode cX7_init 146 = .ok (.iload_n 1, 1) := by decide +kernel
theorem dX7_init_147 : decode cX7_init 147 = .ok (.iconst 2, 1) := by decide +kernel
theorem dX7_init_148 : decode cX7_init 148 = .ok (.if_icmp .ge 22, 3) := by decide +kernel
theorem dX7_init_151 : decode cX7_init 151 = .ok (.aload_n 0, 1) := by decide +kernel
theorem dX7_init_152 : decode cX7_init 152 = .ok (.getfield 40, 3) := by decide +kernel
theorem dX7_init_155 : decode cX7_init 155 = .ok (.iload_n 1, 1) := by decide +kernel
theorem dX7_init_156 : decode cX7_init 156 = .ok (.new 23, 3) := by decide +kernel
theorem dX7_init_159 : decode cX7_init 159 = .ok (.dup, 1) := by decide +kernel
theorem dX7_init_160 : decode cX7_init 160 = .ok (.invokespecial 25, 3) := by decide +kernel
theorem dX7_init_163 : decode cX7_init 163 = .ok (.aastore, 1) := by decide +kernel
theorem dX7_init_164 : decode cX7_init 164 = .ok (.iinc 1 1, 3) := by decide +kernel
theorem dX7_init_167 : decode cX7_init 167 = .ok (.goto (-21), 3) := by decide +kernel
theorem dX7_init_170 : decode cX7_init 170 = .ok (.iconst 0, 1) := by decide +kernel
theorem dX7_init_171 : decode cX7_init 171 = .ok (.istore_n 1, 1) := by decide +kernel
theorem dX7_init_172 : decode cX7_init 172 = .ok (.iload_n 1, 1) := by decide +kernel
theorem dX7_init_173 : decode cX7_init 173 = .ok (.iconst 4, 1) := by decide +kernel
theorem dX7_init_174 : decode cX7_init 174 = .ok (.if_icmp .ge 22, 3) := by decide +kernel
theorem dX7_init_177 : decode cX7_init 177 = .ok (.aload_n 0, 1) := by decide +kernel
theorem dX7_init_178 : decode cX7_init 178 = .ok (.getfield 59, 3) := by decide +kernel
theorem dX7_init_181 : decode cX7_init 181 = .ok (.iload_n 1, 1) := by decide +kernel
theorem dX7_init_182 : decode cX7_init 182 = .ok (.new 57, 3) := by decide +kernel
theorem dX7_init_185 : decode cX7_init 185 = .ok (.dup, 1) := by decide +kernel
theorem dX7_init_186 : decode cX7_init 186 = .ok (.invokespecial 70, 3) := by decide +kernel
theorem dX7_init_189 : decode cX7_init 189 = .ok (.aastore, 1) := by decide +kernel
theorem dX7_init_190 : decode cX7_init 190 = .ok (.iinc 1 1, 3) := by decide +kernel
theorem dX7_init_193 : decode cX7_init 193 = .ok (.goto (-21), 3) := by decide +kernel
theorem dX7_init_196 : decode cX7_init 196 = .ok (.return_, 1) := by decide +kernel
theorem dX7_write_0 : decode cX7_write 0 = .ok (.iload_n 1, 1) := by decide +kernel
theorem dX7_write_1 : decode cX7_write 1 = .ok (.ifCond .lt 10, 3) := by decide +kernel
theorem dX7_write_4 : decode cX7_write 4 = .ok (.iload_n 1, 1) := by decide +kernel
theorem dX7_write_5 : decode cX7_write 5 = .ok (.sipush 255, 3) := by decide +kernel
theorem dX7_write_8 : decode cX7_write 8 = .ok (.if_icmp .le 6, 3) := by decide +kernel
theorem dX7_write_11 : decode cX7_write 11 = .ok (.bipush (-3), 2) := by decide +kernel
theorem dX7_write_13 : decode cX7_write 13 = .ok (.ireturn, 1) := by decide +kernel
theorem dX7_write_14 : decode cX7_write 14 = .ok (.aload_n 0, 1) := by decide +kernel
theorem dX7_write_15 : decode cX7_write 15 = .ok (.getfield 10, 3) := by decide +kernel
theorem dX7_write_18 : decode cX7_write 18 = .ok (.getfield 71, 3) := by decide +kernel
theorem dX7_write_21 : decode cX7_write 21 = .ok (.sipush 200, 3) := by decide +kernel
theorem dX7_write_24 : decode cX7_write 24 = .ok (.if_icmp .lt 6, 3) := by decide +kernel
theorem dX7_write_27 : decode cX7_write 27 = .ok (.bipush (-5), 2) := by decide +kernel
theorem dX7_write_29 : decode cX7_write 29 = .ok (.ireturn, 1) := by decide +kernel
theorem dX7_write_30 : decode cX7_write 30 = .ok (.aload_n 0, 1) := by decide +kernel
theorem dX7_write_31 : decode cX7_write 31 = .ok (.getfield 10, 3) := by decide +kernel
theorem dX7_write_34 : decode cX7_write 34 = .ok (.getfield 75, 3) := by decide +kernel
theorem dX7_write_37 : decode cX7_write 37 = .ok (.aload_n 0, 1) := by decide +kernel
theorem dX7_write_38 : decode cX7_write 38 = .ok (.getfield 10, 3) := by decide +kernel
theorem dX7_write_41 : decode cX7_write 41 = .ok (.getfield 71, 3) := by decide +kernel
theorem dX7_write_44 : decode cX7_write 44 = .ok (.iload_n 1, 1) := by decide +kernel
theorem dX7_write_45 : decode cX7_write 45 = .ok (.iastore, 1) := by decide +kernel
theorem dX7_write_46 : decode cX7_write 46 = .ok (.aload_n 0, 1) := by decide +kernel
theorem dX7_write_47 : decode cX7_write 47 = .ok (.getfield 10, 3) := by decide +kernel
theorem dX7_write_50 : decode cX7_write 50 = .ok (.dup, 1) := by decide +kernel
theorem dX7_write_51 : decode cX7_write 51 = .ok (.getfield 71, 3) := by decide +kernel
theorem dX7_write_54 : decode cX7_write 54 = .ok (.iconst 1, 1) := by decide +kernel
theorem dX7_write_55 : decode cX7_write 55 = .ok (.iadd, 1) := by decide +kernel
theorem dX7_write_56 : decode cX7_write 56 = .ok (.putfield 71, 3) := by decide +kernel
theorem dX7_write_59 : decode cX7_write 59 = .ok (.aload_n 0, 1) := by decide +kernel
theorem dX7_write_60 : decode cX7_write 60 = .ok (.getfield 10, 3) := by decide +kernel
theorem dX7_write_63 : decode cX7_write 63 = .ok (.getfield 71, 3) := by decide +kernel
theorem dX7_write_66 : decode cX7_write 66 = .ok (.ireturn, 1) := by decide +kernel
theorem dX7_erase_0 : decode cX7_erase 0 = .ok (.aload_n 0, 1) := by decide +kernel
theorem dX7_erase_1 : decode cX7_erase 1 = .ok (.getfield 10, 3) := by decide +kernel
theorem dX7_erase_4 : decode cX7_erase 4 = .ok (.getfield 71, 3) := by decide +kernel
theorem dX7_erase_7 : decode cX7_erase 7 = .ok (.istore_n 1, 1) := by decide +kernel
theorem dX7_erase_8 : decode cX7_erase 8 = .ok (.aload_n 0, 1) := by decide +kernel
theorem dX7_erase_9 : decode cX7_erase 9 = .ok (.getfield 10, 3) := by decide +kernel
theorem dX7_erase_12 : decode cX7_erase 12 = .ok (.iconst 0, 1) := by decide +kernel
theorem dX7_erase_13 : decode cX7_erase 13 = .ok (.putfield 71, 3) := by decide +kernel
theorem dX7_erase_16 : decode cX7_erase 16 = .ok (.iload_n 1, 1) := by decide +kernel
theorem dX7_erase_17 : decode cX7_erase 17 = .ok (.ireturn, 1) := by decide +kernel
set_option maxRecDepth 20000 in
theorem ggX7_fault_X6_parse : GoodIn wsX7_fault wsX6_parse := goodIn_r _ [8, 9, 10, 11, 12, 13, 14, 15, 16, 17, 18, 19, 20, 21, 22, 23, 24, 25, 26, 27, 28, 29, 30, 31, 32, 33, 34, 35, 36, 37, 38, 39, 40, 41, 42, 43, 44, 45, 7, 46, 47, 48, 49, 50, 51, 52, 53, 54, 55, 56, 57, 58, 59, 60, 61, 62, 63, 64, 65, 66, 67, 68, 69, 70, 71, 72, 73, 74, 75, 76, 77, 78, 79, 80, 81, 82, 83, 84, 85, 86, 87, 88, 89, 90, 91, 92, 93, 94, 95, 96, 97, 98, 99, 100, 101, 102, 103, 104, 105, 106, 107, 108, 109, 110, 111, 112, 113, 114, 115, 116, 117, 118, 119, 120, 121, 122, 123, 124, 125, 126, 127, 128, 129, 130, 131, 132, 133, 134, 135, 136, 137, 138, 139, 140, 141, 142, 143, 144, 145, 146, 147, 148, 149, 150, 151, 152, 153, 154, 155, 156, 157, 158, 159, 160, 161, 162, 163, 164, 165, 166, 167, 168, 169, 170, 171, 185, 186, 187, 188, 189, 190, 191, 192, 193, 194, 195, 196, 197, 198, 199, 200, 201, 202, 203] (by decide +kernel) (by decide +kernel)
set_option maxRecDepth 20000 in
theorem gX7_fault_X6_parse : GoodIn wsX7_fault (wsV RX7 79 RX6 yX6_parse wsX6_parse) := goodIn_app (goodIn_of _ (by decide +kernel)) ggX7_fault_X6_parse
theorem dX7_fault_0 : decode cX7_fault 0 = .ok (.aload_n 0, 1) := by decide +kernel
theorem dX7_fault_1 : decode cX7_fault 1 = .ok (.getfield 10, 3) := by decide +kernel
theorem dX7_fault_4 : decode cX7_fault 4 = .ok (.aload_n 0, 1) := by decide +kernel
theorem dX7_fault_5 : decode cX7_fault 5 = .ok (.getfield 19, 3) := by decide +kernel
theorem dX7_fault_8 : decode cX7_fault 8 = .ok (.aload_n 0, 1) := by decide +kernel
theorem dX7_fault_9 : decode cX7_fault 9 = .ok (.getfield 26, 3) := by decide +kernel
theorem dX7_fault_12 : decode cX7_fault 12 = .ok (.invokevirtual 79, 3) := by decide +kernel
theorem dX7_fault_15 : decode cX7_fault 15 = .ok (.ireturn, 1) := by decide +kernel
set_option maxRecDepth 20000 in
theorem ggX7_club_X6_parse : GoodIn wsX7_club wsX6_parse := goodIn_r _ [17, 18, 19, 20, 21, 22, 23, 24, 25, 26, 27, 28, 29, 30, 31, 32, 33, 34, 35, 36, 37, 38, 39, 40, 41, 42, 43, 44, 45, 46, 47, 48, 49, 50, 51, 52, 53, 54, 16, 55, 56, 57, 58, 59, 60, 61, 62, 63, 64, 65, 66, 67, 68, 69, 70, 71, 72, 73, 74, 75, 76, 77, 78, 79, 80, 81, 82, 83, 84, 85, 86, 87, 88, 89, 90, 91, 92, 93, 94, 95, 96, 97, 98, 99, 100, 101, 102, 103, 104, 105, 106, 107, 108, 109, 110, 111, 112, 113, 114, 115, 116, 117, 118, 119, 120, 121, 122, 123, 124, 125, 126, 127, 128, 129, 130, 131, 132, 133, 134, 135, 136, 137, 138, 139, 140, 141, 142, 143, 144, 145, 146, 147, 148, 149, 150, 151, 152, 153, 154, 155, 156, 157, 158, 159, 160, 161, 162, 163, 164, 165, 166, 167, 168, 169, 170, 171, 172, 173, 174, 175, 176, 177, 178, 179, 180, 196, 197, 198, 199, 200, 201, 202, 208, 209, 210, 211, 212, 213, 214, 215, 216, 217, 218, 219] (by decide +kernel) (by decide +kernel)
set_option maxRecDepth 20000 in
theorem gX7_club_X6_parse : GoodIn wsX7_club (wsV RX7 79 RX6 yX6_parse wsX6_parse) := goodIn_app (goodIn_of _ (by decide +kernel)) ggX7_club_X6_parse
set_option maxRecDepth 20000 in
theorem ggX7_club_X0_setAs : GoodIn wsX7_club wsX0_setAs := goodIn_r _ [29, 30, 31, 32, 33, 34, 35, 36, 37, 208, 209, 210, 211] (by decide +kernel) (by decide +kernel)
set_option maxRecDepth 20000 in
theorem gX7_club_X0_setAs : GoodIn wsX7_club (wsV RX7 84 RX0 yX0_setAs wsX0_setAs) := goodIn_app (goodIn_of _ (by decide +kernel)) ggX7_club_X0_setAs
set_option maxRecDepth 20000 in
theorem ggX7_club_X3_setAs : GoodIn wsX7_club wsX3_setAs := goodIn_r _ [42, 43, 44, 45, 46, 47, 48, 33, 34, 35, 49, 50, 51, 212, 213, 214, 215, 216, 217, 218, 219] (by decide +kernel) (by decide +kernel)
set_option maxRecDepth 20000 in
theorem gX7_club_X3_setAs : GoodIn wsX7_club (wsV RX7 91 RX3 yX3_setAs wsX3_setAs) := goodIn_app (goodIn_of _ (by decide +kernel)) ggX7_club_X3_setAs
theorem dX7_club_0 : decode cX7_club 0 = .ok (.aload_n 0, 1) := by decide +kernel
theorem dX7_club_1 : decode cX7_club 1 = .ok (.getfield 10, 3) := by decide +kernel
theorem dX7_club_4 : decode cX7_club 4 = .ok (.aload_n 0, 1) := by decide +kernel
theorem dX7_club_5 : decode cX7_club 5 = .ok (.getfield 19, 3) := by decide +kernel
theorem dX7_club_8 : decode cX7_club 8 = .ok (.aload_n 0, 1) := by decide +kernel
theorem dX7_club_9 : decode cX7_club 9 = .ok (.getfield 26, 3) := by decide +kernel
theorem dX7_club_12 : decode cX7_club 12 = .ok (.invokevirtual 79, 3) := by decide +kernel
theorem dX7_club_15 : decode cX7_club 15 = .ok (.iconst (-1), 1) := by decide +kernel
theorem dX7_club_16 : decode cX7_club 16 = .ok (.if_icmp .eq 6, 3) := by decide +kernel
theorem dX7_club_19 : decode cX7_club 19 = .ok (.bipush (-4), 2) := by decide +kernel
theorem dX7_club_21 : decode cX7_club 21 = .ok (.ireturn, 1) := by decide +kernel
theorem dX7_club_22 : decode cX7_club 22 = .ok (.aload_n 0, 1) := by decide +kernel
theorem dX7_club_23 : decode cX7_club 23 = .ok (.getfield 19, 3) := by decide +kernel
theorem dX7_club_26 : decode cX7_club 26 = .ok (.aload_n 0, 1) := by decide +kernel
theorem dX7_club_27 : decode cX7_club 27 = .ok (.getfield 10, 3) := by decide +kernel
theorem dX7_club_30 : decode cX7_club 30 = .ok (.getfield 83, 3) := by decide +kernel
theorem dX7_club_33 : decode cX7_club 33 = .ok (.invokevirtual 84, 3) := by decide +kernel
theorem dX7_club_36 : decode cX7_club 36 = .ok (.aload_n 0, 1) := by decide +kernel
theorem dX7_club_37 : decode cX7_club 37 = .ok (.getfield 26, 3) := by decide +kernel
theorem dX7_club_40 : decode cX7_club 40 = .ok (.aload_n 0, 1) := by decide +kernel
theorem dX7_club_41 : decode cX7_club 41 = .ok (.getfield 10, 3) := by decide +kernel
theorem dX7_club_44 : decode cX7_club 44 = .ok (.getfield 88, 3) := by decide +kernel
theorem dX7_club_47 : decode cX7_club 47 = .ok (.invokevirtual 91, 3) := by decide +kernel
theorem dX7_club_50 : decode cX7_club 50 = .ok (.aload_n 0, 1) := by decide +kernel
theorem dX7_club_51 : decode cX7_club 51 = .ok (.getfield 30, 3) := by decide +kernel
theorem dX7_club_54 : decode cX7_club 54 = .ok (.aload_n 0, 1) := by decide +kernel
theorem dX7_club_55 : decode cX7_club 55 = .ok (.getfield 26, 3) := by decide +kernel
theorem dX7_club_58 : decode cX7_club 58 = .ok (.invokevirtual 91, 3) := by decide +kernel
theorem dX7_club_61 : decode cX7_club 61 = .ok (.aload_n 0, 1) := by decide +kernel
theorem dX7_club_62 : decode cX7_club 62 = .ok (.getfield 10, 3) := by decide +kernel
theorem dX7_club_65 : decode cX7_club 65 = .ok (.iconst 0, 1) := by decide +kernel
theorem dX7_club_66 : decode cX7_club 66 = .ok (.putfield 71, 3) := by decide +kernel
theorem dX7_club_69 : decode cX7_club 69 = .ok (.aload_n 0, 1) := by decide +kernel
theorem dX7_club_70 : decode cX7_club 70 = .ok (.iconst 0, 1) := by decide +kernel
theorem dX7_club_71 : decode cX7_club 71 = .ok (.putfield 94, 3) := by decide +kernel
theorem dX7_club_74 : decode cX7_club 74 = .ok (.aload_n 0, 1) := by decide +kernel
theorem dX7_club_75 : decode cX7_club 75 = .ok (.iconst 0, 1) := by decide +kernel
theorem dX7_club_76 : decode cX7_club 76 = .ok (.putfield 97, 3) := by decide +kernel
theorem dX7_club_79 : decode cX7_club 79 = .ok (.aload_n 0, 1) := by decide +kernel
theorem dX7_club_80 : decode cX7_club 80 = .ok (.getfield 46, 3) := by decide +kernel
theorem dX7_club_83 : decode cX7_club 83 = .ok (.iconst 0, 1) := by decide +kernel
theorem dX7_club_84 : decode cX7_club 84 = .ok (.putfield 100, 3) := by decide +kernel
theorem dX7_club_87 : decode cX7_club 87 = .ok (.aload_n 0, 1) := by decide +kernel
theorem dX7_club_88 : decode cX7_club 88 = .ok (.getfield 10, 3) := by decide +kernel
theorem dX7_club_91 : decode cX7_club 91 = .ok (.getfield 103, 3) := by decide +kernel
theorem dX7_club_94 : decode cX7_club 94 = .ok (.ireturn, 1) := by decide +kernel
set_option maxRecDepth 20000 in
theorem ggX7_fact_X0_hasFact : GoodIn wsX7_fact wsX0_hasFact := goodIn_r _ [13, 14, 35, 36, 37, 38] (by decide +kernel) (by decide +kernel)
set_option maxRecDepth 20000 in
theorem gX7_fact_X0_hasFact : GoodIn wsX7_fact (wsV RX7 106 RX0 yX0_hasFact wsX0_hasFact) := goodIn_app (goodIn_of _ (by decide +kernel)) ggX7_fact_X0_hasFact
set_option maxRecDepth 20000 in
theorem ggX7_fact_X7_bitsWith : GoodIn wsX7_fact wsX7_bitsWith := goodIn_r _ [18, 19, 20, 17, 21] (by decide +kernel) (by decide +kernel)
set_option maxRecDepth 20000 in
theorem gX7_fact_X7_bitsWith : GoodIn wsX7_fact (va_wsS RX7 122 yX7_bitsWith wsX7_bitsWith) := goodIn_app (goodIn_of _ (by decide +kernel)) ggX7_fact_X7_bitsWith
theorem dX7_fact_0 : decode cX7_fact 0 = .ok (.aload_n 0, 1) := by decide +kernel
theorem dX7_fact_1 : decode cX7_fact 1 = .ok (.getfield 19, 3) := by decide +kernel
theorem dX7_fact_4 : decode cX7_fact 4 = .ok (.iload_n 1, 1) := by decide +kernel
theorem dX7_fact_5 : decode cX7_fact 5 = .ok (.invokevirtual 106, 3) := by decide +kernel
theorem dX7_fact_8 : decode cX7_fact 8 = .ok (.ifCond .ne 6, 3) := by decide +kernel
theorem dX7_fact_11 : decode cX7_fact 11 = .ok (.bipush (-2), 2) := by decide +kernel
theorem dX7_fact_13 : decode cX7_fact 13 = .ok (.ireturn, 1) := by decide +kernel
theorem dX7_fact_14 : decode cX7_fact 14 = .ok (.iload_n 2, 1) := by decide +kernel
theorem dX7_fact_15 : decode cX7_fact 15 = .ok (.tableswitch 87 0 3 #[29, 39, 49, 68], 29) := by decide +kernel
theorem dX7_fact_44 : decode cX7_fact 44 = .ok (.aload_n 0, 1) := by decide +kernel
theorem dX7_fact_45 : decode cX7_fact 45 = .ok (.getfield 19, 3) := by decide +kernel
theorem dX7_fact_48 : decode cX7_fact 48 = .ok (.getfield 110, 3) := by decide +kernel
theorem dX7_fact_51 : decode cX7_fact 51 = .ok (.iload_n 1, 1) := by decide +kernel
theorem dX7_fact_52 : decode cX7_fact 52 = .ok (.iaload, 1) := by decide +kernel
theorem dX7_fact_53 : decode cX7_fact 53 = .ok (.ireturn, 1) := by decide +kernel
theorem dX7_fact_54 : decode cX7_fact 54 = .ok (.aload_n 0, 1) := by decide +kernel
theorem dX7_fact_55 : decode cX7_fact 55 = .ok (.getfield 19, 3) := by decide +kernel
theorem dX7_fact_58 : decode cX7_fact 58 = .ok (.getfield 113, 3) := by decide +kernel
theorem dX7_fact_61 : decode cX7_fact 61 = .ok (.iload_n 1, 1) := by decide +kernel
theorem dX7_fact_62 : decode cX7_fact 62 = .ok (.iaload, 1) := by decide +kernel
theorem dX7_fact_63 : decode cX7_fact 63 = .ok (.ireturn, 1) := by decide +kernel
theorem dX7_fact_64 : decode cX7_fact 64 = .ok (.aload_n 0, 1) := by decide +kernel
theorem dX7_fact_65 : decode cX7_fact 65 = .ok (.getfield 30, 3) := by decide +kernel
theorem dX7_fact_68 : decode cX7_fact 68 = .ok (.getfield 116, 3) := by decide +kernel
theorem dX7_fact_71 : decode cX7_fact 71 = .ok (.aload_n 0, 1) := by decide +kernel
theorem dX7_fact_72 : decode cX7_fact 72 = .ok (.getfield 30, 3) := by decide +kernel
theorem dX7_fact_75 : decode cX7_fact 75 = .ok (.getfield 119, 3) := by decide +kernel
theorem dX7_fact_78 : decode cX7_fact 78 = .ok (.iload_n 1, 1) := by decide +kernel
theorem dX7_fact_79 : decode cX7_fact 79 = .ok (.invokestatic 122, 3) := by decide +kernel
theorem dX7_fact_82 : decode cX7_fact 82 = .ok (.ireturn, 1) := by decide +kernel
theorem dX7_fact_83 : decode cX7_fact 83 = .ok (.aload_n 0, 1) := by decide +kernel
theorem dX7_fact_84 : decode cX7_fact 84 = .ok (.getfield 30, 3) := by decide +kernel
theorem dX7_fact_87 : decode cX7_fact 87 = .ok (.getfield 126, 3) := by decide +kernel
theorem dX7_fact_90 : decode cX7_fact 90 = .ok (.aload_n 0, 1) := by decide +kernel
theorem dX7_fact_91 : decode cX7_fact 91 = .ok (.getfield 30, 3) := by decide +kernel
theorem dX7_fact_94 : decode cX7_fact 94 = .ok (.getfield 129, 3) := by decide +kernel
theorem dX7_fact_97 : decode cX7_fact 97 = .ok (.iload_n 1, 1) := by decide +kernel
theorem dX7_fact_98 : decode cX7_fact 98 = .ok (.invokestatic 122, 3) := by decide +kernel
theorem dX7_fact_101 : decode cX7_fact 101 = .ok (.ireturn, 1) := by decide +kernel
theorem dX7_fact_102 : decode cX7_fact 102 = .ok (.bipush (-3), 2) := by decide +kernel
theorem dX7_fact_104 : decode cX7_fact 104 = .ok (.ireturn, 1) := by decide +kernel
set_option maxRecDepth 20000 in
theorem ggX7_member_X3_hasMember : GoodIn wsX7_member wsX3_hasMember := goodIn_r _ [10, 11, 59, 60, 61, 62, 63, 64, 65, 66] (by decide +kernel) (by decide +kernel)
set_option maxRecDepth 20000 in
theorem gX7_member_X3_hasMember : GoodIn wsX7_member (wsV RX7 132 RX3 yX3_hasMember wsX3_hasMember) := goodIn_app (goodIn_of _ (by decide +kernel)) ggX7_member_X3_hasMember
set_option maxRecDepth 20000 in
theorem ggX7_member_X3_leechesOn : GoodIn wsX7_member wsX3_leechesOn := goodIn_r _ [15, 16, 17, 59, 60, 61, 62, 63, 64, 65, 66] (by decide +kernel) (by decide +kernel)
set_option maxRecDepth 20000 in
theorem gX7_member_X3_leechesOn : GoodIn wsX7_member (wsV RX7 135 RX3 yX3_leechesOn wsX3_leechesOn) := goodIn_app (goodIn_of _ (by decide +kernel)) ggX7_member_X3_leechesOn
set_option maxRecDepth 20000 in
theorem ggX7_member_X7_setClear : GoodIn wsX7_member wsX7_setClear := goodIn_r _ [22, 23, 24, 3, 1, 2, 25, 26, 27, 28, 29, 30, 31, 32, 33, 34, 35, 36, 37, 38, 39, 40, 41, 42, 43, 44, 45, 46, 47, 48, 49, 50, 51, 52, 53, 54, 55, 56, 57, 58, 69, 70, 71, 72, 59, 60, 61, 62, 63, 64, 65, 66, 67, 68] (by decide +kernel) (by decide +kernel)
set_option maxRecDepth 20000 in
theorem gX7_member_X7_setClear : GoodIn wsX7_member (wsV RX7 139 RX7 yX7_setClear wsX7_setClear) := goodIn_app (goodIn_of _ (by decide +kernel)) ggX7_member_X7_setClear
theorem dX7_member_0 : decode cX7_member 0 = .ok (.aload_n 0, 1) := by decide +kernel
theorem dX7_member_1 : decode cX7_member 1 = .ok (.getfield 30, 3) := by decide +kernel
theorem dX7_member_4 : decode cX7_member 4 = .ok (.iload_n 1, 1) := by decide +kernel
theorem dX7_member_5 : decode cX7_member 5 = .ok (.invokevirtual 132, 3) := by decide +kernel
theorem dX7_member_8 : decode cX7_member 8 = .ok (.ifCond .ne 6, 3) := by decide +kernel
theorem dX7_member_11 : decode cX7_member 11 = .ok (.bipush (-2), 2) := by decide +kernel
theorem dX7_member_13 : decode cX7_member 13 = .ok (.ireturn, 1) := by decide +kernel
theorem dX7_member_14 : decode cX7_member 14 = .ok (.iload_n 2, 1) := by decide +kernel
theorem dX7_member_15 : decode cX7_member 15 = .ok (.tableswitch 76 0 3 #[29, 39, 48, 62], 29) := by decide +kernel
theorem dX7_member_44 : decode cX7_member 44 = .ok (.aload_n 0, 1) := by decide +kernel
theorem dX7_member_45 : decode cX7_member 45 = .ok (.getfield 30, 3) := by decide +kernel
theorem dX7_member_48 : decode cX7_member 48 = .ok (.getfield 116, 3) := by decide +kernel
theorem dX7_member_51 : decode cX7_member 51 = .ok (.iload_n 1, 1) := by decide +kernel
theorem dX7_member_52 : decode cX7_member 52 = .ok (.iaload, 1) := by decide +kernel
theorem dX7_member_53 : decode cX7_member 53 = .ok (.ireturn, 1) := by decide +kernel
theorem dX7_member_54 : decode cX7_member 54 = .ok (.aload_n 0, 1) := by decide +kernel
theorem dX7_member_55 : decode cX7_member 55 = .ok (.getfield 30, 3) := by decide +kernel
theorem dX7_member_58 : decode cX7_member 58 = .ok (.iload_n 1, 1) := by decide +kernel
theorem dX7_member_59 : decode cX7_member 59 = .ok (.invokevirtual 135, 3) := by decide +kernel
theorem dX7_member_62 : decode cX7_member 62 = .ok (.ireturn, 1) := by decide +kernel
theorem dX7_member_63 : decode cX7_member 63 = .ok (.aload_n 0, 1) := by decide +kernel
theorem dX7_member_64 : decode cX7_member 64 = .ok (.iload_n 1, 1) := by decide +kernel
theorem dX7_member_65 : decode cX7_member 65 = .ok (.invokevirtual 139, 3) := by decide +kernel
theorem dX7_member_68 : decode cX7_member 68 = .ok (.aload_n 0, 1) := by decide +kernel
theorem dX7_member_69 : decode cX7_member 69 = .ok (.getfield 66, 3) := by decide +kernel
theorem dX7_member_72 : decode cX7_member 72 = .ok (.getfield 143, 3) := by decide +kernel
theorem dX7_member_75 : decode cX7_member 75 = .ok (.l2i, 1) := by decide +kernel
theorem dX7_member_76 : decode cX7_member 76 = .ok (.ireturn, 1) := by decide +kernel
theorem dX7_member_77 : decode cX7_member 77 = .ok (.aload_n 0, 1) := by decide +kernel
theorem dX7_member_78 : decode cX7_member 78 = .ok (.iload_n 1, 1) := by decide +kernel
theorem dX7_member_79 : decode cX7_member 79 = .ok (.invokevirtual 139, 3) := by decide +kernel
theorem dX7_member_82 : decode cX7_member 82 = .ok (.aload_n 0, 1) := by decide +kernel
theorem dX7_member_83 : decode cX7_member 83 = .ok (.getfield 66, 3) := by decide +kernel
theorem dX7_member_86 : decode cX7_member 86 = .ok (.getfield 147, 3) := by decide +kernel
theorem dX7_member_89 : decode cX7_member 89 = .ok (.l2i, 1) := by decide +kernel
theorem dX7_member_90 : decode cX7_member 90 = .ok (.ireturn, 1) := by decide +kernel
theorem dX7_member_91 : decode cX7_member 91 = .ok (.bipush (-3), 2) := by decide +kernel
theorem dX7_member_93 : decode cX7_member 93 = .ok (.ireturn, 1) := by decide +kernel
set_option maxRecDepth 20000 in
theorem ggX7_leech_X3_hasLeech : GoodIn wsX7_leech wsX3_hasLeech := goodIn_r _ [9, 10, 24, 25, 26, 27, 28, 29, 30, 31] (by decide +kernel) (by decide +kernel)
set_option maxRecDepth 20000 in
theorem gX7_leech_X3_hasLeech : GoodIn wsX7_leech (wsV RX7 150 RX3 yX3_hasLeech wsX3_hasLeech) := goodIn_app (goodIn_of _ (by decide +kernel)) ggX7_leech_X3_hasLeech
theorem dX7_leech_0 : decode cX7_leech 0 = .ok (.aload_n 0, 1) := by decide +kernel
theorem dX7_leech_1 : decode cX7_leech 1 = .ok (.getfield 30, 3) := by decide +kernel
theorem dX7_leech_4 : decode cX7_leech 4 = .ok (.iload_n 1, 1) := by decide +kernel
theorem dX7_leech_5 : decode cX7_leech 5 = .ok (.invokevirtual 150, 3) := by decide +kernel
theorem dX7_leech_8 : decode cX7_leech 8 = .ok (.ifCond .ne 6, 3) := by decide +kernel
theorem dX7_leech_11 : decode cX7_leech 11 = .ok (.bipush (-2), 2) := by decide +kernel
theorem dX7_leech_13 : decode cX7_leech 13 = .ok (.ireturn, 1) := by decide +kernel
theorem dX7_leech_14 : decode cX7_leech 14 = .ok (.iload_n 2, 1) := by decide +kernel
theorem dX7_leech_15 : decode cX7_leech 15 = .ok (.tableswitch 55 0 2 #[25, 35, 45], 25) := by decide +kernel
theorem dX7_leech_40 : decode cX7_leech 40 = .ok (.aload_n 0, 1) := by decide +kernel
theorem dX7_leech_41 : decode cX7_leech 41 = .ok (.getfield 30, 3) := by decide +kernel
theorem dX7_leech_44 : decode cX7_leech 44 = .ok (.getfield 153, 3) := by decide +kernel
theorem dX7_leech_47 : decode cX7_leech 47 = .ok (.iload_n 1, 1) := by decide +kernel
theorem dX7_leech_48 : decode cX7_leech 48 = .ok (.iaload, 1) := by decide +kernel
theorem dX7_leech_49 : decode cX7_leech 49 = .ok (.ireturn, 1) := by decide +kernel
theorem dX7_leech_50 : decode cX7_leech 50 = .ok (.aload_n 0, 1) := by decide +kernel
theorem dX7_leech_51 : decode cX7_leech 51 = .ok (.getfield 30, 3) := by decide +kernel
theorem dX7_leech_54 : decode cX7_leech 54 = .ok (.getfield 156, 3) := by decide +kernel
theorem dX7_leech_57 : decode cX7_leech 57 = .ok (.iload_n 1, 1) := by decide +kernel
theorem dX7_leech_58 : decode cX7_leech 58 = .ok (.iaload, 1) := by decide +kernel
theorem dX7_leech_59 : decode cX7_leech 59 = .ok (.ireturn, 1) := by decide +kernel
theorem dX7_leech_60 : decode cX7_leech 60 = .ok (.aload_n 0, 1) := by decide +kernel
theorem dX7_leech_61 : decode cX7_leech 61 = .ok (.getfield 30, 3) := by decide +kernel
theorem dX7_leech_64 : decode cX7_leech 64 = .ok (.getfield 126, 3) := by decide +kernel
theorem dX7_leech_67 : decode cX7_leech 67 = .ok (.iload_n 1, 1) := by decide +kernel
theorem dX7_leech_68 : decode cX7_leech 68 = .ok (.iaload, 1) := by decide +kernel
theorem dX7_leech_69 : decode cX7_leech 69 = .ok (.ireturn, 1) := by decide +kernel
theorem dX7_leech_70 : decode cX7_leech 70 = .ok (.bipush (-3), 2) := by decide +kernel
theorem dX7_leech_72 : decode cX7_leech 72 = .ok (.ireturn, 1) := by decide +kernel
set_option maxRecDepth 20000 in
theorem ggX7_as_X3_hasLeech : GoodIn wsX7_as wsX3_hasLeech := goodIn_r _ [9, 10, 28, 29, 30, 31, 32, 33, 34, 35] (by decide +kernel) (by decide +kernel)
set_option maxRecDepth 20000 in
theorem gX7_as_X3_hasLeech : GoodIn wsX7_as (wsV RX7 150 RX3 yX3_hasLeech wsX3_hasLeech) := goodIn_app (goodIn_of _ (by decide +kernel)) ggX7_as_X3_hasLeech
set_option maxRecDepth 20000 in
theorem ggX7_as_X7_hasBit : GoodIn wsX7_as wsX7_hasBit := goodIn_r _ [14] (by decide +kernel) (by decide +kernel)
set_option maxRecDepth 20000 in
theorem gX7_as_X7_hasBit : GoodIn wsX7_as (va_wsS RX7 162 yX7_hasBit wsX7_hasBit) := goodIn_app (goodIn_of _ (by decide +kernel)) ggX7_as_X7_hasBit
theorem dX7_as_0 : decode cX7_as 0 = .ok (.aload_n 0, 1) := by decide +kernel
theorem dX7_as_1 : decode cX7_as 1 = .ok (.getfield 30, 3) := by decide +kernel
theorem dX7_as_4 : decode cX7_as 4 = .ok (.iload_n 1, 1) := by decide +kernel
theorem dX7_as_5 : decode cX7_as 5 = .ok (.invokevirtual 150, 3) := by decide +kernel
theorem dX7_as_8 : decode cX7_as 8 = .ok (.ifCond .ne 6, 3) := by decide +kernel
theorem dX7_as_11 : decode cX7_as 11 = .ok (.bipush (-2), 2) := by decide +kernel
theorem dX7_as_13 : decode cX7_as 13 = .ok (.ireturn, 1) := by decide +kernel
theorem dX7_as_14 : decode cX7_as 14 = .ok (.iload_n 2, 1) := by decide +kernel
theorem dX7_as_15 : decode cX7_as 15 = .ok (.ifCond .lt 11, 3) := by decide +kernel
theorem dX7_as_18 : decode cX7_as 18 = .ok (.iload_n 2, 1) := by decide +kernel
theorem dX7_as_19 : decode cX7_as 19 = .ok (.getstatic 159, 3) := by decide +kernel
theorem dX7_as_22 : decode cX7_as 22 = .ok (.arraylength, 1) := by decide +kernel
theorem dX7_as_23 : decode cX7_as 23 = .ok (.if_icmp .lt 6, 3) := by decide +kernel
theorem dX7_as_26 : decode cX7_as 26 = .ok (.bipush (-3), 2) := by decide +kernel
theorem dX7_as_28 : decode cX7_as 28 = .ok (.ireturn, 1) := by decide +kernel
theorem dX7_as_29 : decode cX7_as 29 = .ok (.aload_n 0, 1) := by decide +kernel
theorem dX7_as_30 : decode cX7_as 30 = .ok (.getfield 30, 3) := by decide +kernel
theorem dX7_as_33 : decode cX7_as 33 = .ok (.getfield 153, 3) := by decide +kernel
theorem dX7_as_36 : decode cX7_as 36 = .ok (.iload_n 1, 1) := by decide +kernel
theorem dX7_as_37 : decode cX7_as 37 = .ok (.iaload, 1) := by decide +kernel
theorem dX7_as_38 : decode cX7_as 38 = .ok (.istore_n 3, 1) := by decide +kernel
theorem dX7_as_39 : decode cX7_as 39 = .ok (.getstatic 159, 3) := by decide +kernel
theorem dX7_as_42 : decode cX7_as 42 = .ok (.iload_n 2, 1) := by decide +kernel
theorem dX7_as_43 : decode cX7_as 43 = .ok (.iaload, 1) := by decide +kernel
theorem dX7_as_44 : decode cX7_as 44 = .ok (.iload_n 3, 1) := by decide +kernel
theorem dX7_as_45 : decode cX7_as 45 = .ok (.invokestatic 162, 3) := by decide +kernel
theorem dX7_as_48 : decode cX7_as 48 = .ok (.ifCond .eq 11, 3) := by decide +kernel
theorem dX7_as_51 : decode cX7_as 51 = .ok (.getstatic 166, 3) := by decide +kernel
theorem dX7_as_54 : decode cX7_as 54 = .ok (.iload_n 3, 1) := by decide +kernel
theorem dX7_as_55 : decode cX7_as 55 = .ok (.iaload, 1) := by decide +kernel
theorem dX7_as_56 : decode cX7_as 56 = .ok (.goto 5, 3) := by decide +kernel
theorem dX7_as_59 : decode cX7_as 59 = .ok (.bipush (-4), 2) := by decide +kernel
theorem dX7_as_61 : decode cX7_as 61 = .ok (.ireturn, 1) := by decide +kernel
set_option maxRecDepth 20000 in
theorem ggX7_minute_X7_remember : GoodIn wsX7_minute wsX7_remember := goodIn_r _ [8, 9, 10, 1, 11, 12, 13, 14, 15, 16, 17, 18, 19, 20, 21, 22, 23, 24, 25, 26, 27, 62, 63, 64, 65, 66, 67, 68, 69, 70, 71, 72, 73, 74, 75, 76, 77, 78, 79, 80, 81, 82] (by decide +kernel) (by decide +kernel)
set_option maxRecDepth 20000 in
theorem gX7_minute_X7_remember : GoodIn wsX7_minute (wsV RX7 172 RX7 yX7_remember wsX7_remember) := goodIn_app (goodIn_of _ (by decide +kernel)) ggX7_minute_X7_remember
set_option maxRecDepth 20000 in
theorem ggX7_minute_X3_pass : GoodIn wsX7_minute wsX3_pass := goodIn_r _ [31, 17, 26, 19, 32, 33, 34, 14, 35, 16, 36, 37, 38, 39, 25, 20, 27, 40, 41, 42, 43, 44, 45, 46, 47, 48, 49, 50, 51, 52, 53, 54, 55, 56, 57, 58, 59, 60, 61, 75, 76, 77, 78, 79, 80, 81, 82, 83, 84, 85, 86] (by decide +kernel) (by decide +kernel)
set_option maxRecDepth 20000 in
theorem gX7_minute_X3_pass : GoodIn wsX7_minute (wsV RX7 175 RX3 yX3_pass wsX3_pass) := goodIn_app (goodIn_of _ (by decide +kernel)) ggX7_minute_X3_pass
theorem dX7_minute_0 : decode cX7_minute 0 = .ok (.iload_n 1, 1) := by decide +kernel
theorem dX7_minute_1 : decode cX7_minute 1 = .ok (.iconst 1, 1) := by decide +kernel
theorem dX7_minute_2 : decode cX7_minute 2 = .ok (.if_icmp .lt 9, 3) := by decide +kernel
theorem dX7_minute_5 : decode cX7_minute 5 = .ok (.iload_n 1, 1) := by decide +kernel
theorem dX7_minute_6 : decode cX7_minute 6 = .ok (.bipush 12, 2) := by decide +kernel
theorem dX7_minute_8 : decode cX7_minute 8 = .ok (.if_icmp .le 6, 3) := by decide +kernel
theorem dX7_minute_11 : decode cX7_minute 11 = .ok (.bipush (-3), 2) := by decide +kernel
theorem dX7_minute_13 : decode cX7_minute 13 = .ok (.ireturn, 1) := by decide +kernel
theorem dX7_minute_14 : decode cX7_minute 14 = .ok (.aload_n 0, 1) := by decide +kernel
theorem dX7_minute_15 : decode cX7_minute 15 = .ok (.getfield 30, 3) := by decide +kernel
theorem dX7_minute_18 : decode cX7_minute 18 = .ok (.getfield 169, 3) := by decide +kernel
theorem dX7_minute_21 : decode cX7_minute 21 = .ok (.iload_n 1, 1) := by decide +kernel
theorem dX7_minute_22 : decode cX7_minute 22 = .ok (.iadd, 1) := by decide +kernel
theorem dX7_minute_23 : decode cX7_minute 23 = .ok (.sipush 999, 3) := by decide +kernel
theorem dX7_minute_26 : decode cX7_minute 26 = .ok (.if_icmp .le 6, 3) := by decide +kernel
theorem dX7_minute_29 : decode cX7_minute 29 = .ok (.bipush (-5), 2) := by decide +kernel
theorem dX7_minute_31 : decode cX7_minute 31 = .ok (.ireturn, 1) := by decide +kernel
theorem dX7_minute_32 : decode cX7_minute 32 = .ok (.aload_n 0, 1) := by decide +kernel
theorem dX7_minute_33 : decode cX7_minute 33 = .ok (.invokevirtual 172, 3) := by decide +kernel
theorem dX7_minute_36 : decode cX7_minute 36 = .ok (.aload_n 0, 1) := by decide +kernel
theorem dX7_minute_37 : decode cX7_minute 37 = .ok (.getfield 30, 3) := by decide +kernel
theorem dX7_minute_40 : decode cX7_minute 40 = .ok (.aload_n 0, 1) := by decide +kernel
theorem dX7_minute_41 : decode cX7_minute 41 = .ok (.getfield 19, 3) := by decide +kernel
theorem dX7_minute_44 : decode cX7_minute 44 = .ok (.iload_n 1, 1) := by decide +kernel
theorem dX7_minute_45 : decode cX7_minute 45 = .ok (.invokevirtual 175, 3) := by decide +kernel
theorem dX7_minute_48 : decode cX7_minute 48 = .ok (.aload_n 0, 1) := by decide +kernel
theorem dX7_minute_49 : decode cX7_minute 49 = .ok (.getfield 30, 3) := by decide +kernel
theorem dX7_minute_52 : decode cX7_minute 52 = .ok (.getfield 169, 3) := by decide +kernel
theorem dX7_minute_55 : decode cX7_minute 55 = .ok (.ireturn, 1) := by decide +kernel
set_option maxRecDepth 20000 in
theorem ggX7_put_X3_hasLeech : GoodIn wsX7_put wsX3_hasLeech := goodIn_r _ [7, 8, 48, 49, 50, 51, 52, 53, 54, 55] (by decide +kernel) (by decide +kernel)
set_option maxRecDepth 20000 in
theorem gX7_put_X3_hasLeech : GoodIn wsX7_put (wsV RX7 150 RX3 yX3_hasLeech wsX3_hasLeech) := goodIn_app (goodIn_of _ (by decide +kernel)) ggX7_put_X3_hasLeech
set_option maxRecDepth 20000 in
theorem ggX7_put_X3_hasMember : GoodIn wsX7_put wsX3_hasMember := goodIn_r _ [12, 13, 48, 49, 50, 51, 52, 53, 54, 55] (by decide +kernel) (by decide +kernel)
set_option maxRecDepth 20000 in
theorem gX7_put_X3_hasMember : GoodIn wsX7_put (wsV RX7 132 RX3 yX3_hasMember wsX3_hasMember) := goodIn_app (goodIn_of _ (by decide +kernel)) ggX7_put_X3_hasMember
set_option maxRecDepth 20000 in
theorem ggX7_put_X7_remember : GoodIn wsX7_put wsX7_remember := goodIn_r _ [18, 19, 20, 1, 21, 22, 23, 6, 24, 13, 8, 25, 26, 27, 28, 29, 30, 31, 32, 33, 34, 35, 36, 37, 38, 39, 40, 41, 42, 43, 44, 45, 46, 47, 48, 49, 50, 51, 52, 53, 54, 55] (by decide +kernel) (by decide +kernel)
set_option maxRecDepth 20000 in
theorem gX7_put_X7_remember : GoodIn wsX7_put (wsV RX7 172 RX7 yX7_remember wsX7_remember) := goodIn_app (goodIn_of _ (by decide +kernel)) ggX7_put_X7_remember
theorem dX7_put_0 : decode cX7_put 0 = .ok (.aload_n 0, 1) := by decide +kernel
theorem dX7_put_1 : decode cX7_put 1 = .ok (.getfield 30, 3) := by decide +kernel
theorem dX7_put_4 : decode cX7_put 4 = .ok (.iload_n 1, 1) := by decide +kernel
theorem dX7_put_5 : decode cX7_put 5 = .ok (.invokevirtual 150, 3) := by decide +kernel
theorem dX7_put_8 : decode cX7_put 8 = .ok (.ifCond .eq 19, 3) := by decide +kernel
theorem dX7_put_11 : decode cX7_put 11 = .ok (.iload_n 2, 1) := by decide +kernel
theorem dX7_put_12 : decode cX7_put 12 = .ok (.iconst (-1), 1) := by decide +kernel
theorem dX7_put_13 : decode cX7_put 13 = .ok (.if_icmp .eq 17, 3) := by decide +kernel
theorem dX7_put_16 : decode cX7_put 16 = .ok (.aload_n 0, 1) := by decide +kernel
theorem dX7_put_17 : decode cX7_put 17 = .ok (.getfield 30, 3) := by decide +kernel
theorem dX7_put_20 : decode cX7_put 20 = .ok (.iload_n 2, 1) := by decide +kernel
theorem dX7_put_21 : decode cX7_put 21 = .ok (.invokevirtual 132, 3) := by decide +kernel
theorem dX7_put_24 : decode cX7_put 24 = .ok (.ifCond .ne 6, 3) := by decide +kernel
theorem dX7_put_27 : decode cX7_put 27 = .ok (.bipush (-2), 2) := by decide +kernel
theorem dX7_put_29 : decode cX7_put 29 = .ok (.ireturn, 1) := by decide +kernel
theorem dX7_put_30 : decode cX7_put 30 = .ok (.aload_n 0, 1) := by decide +kernel
theorem dX7_put_31 : decode cX7_put 31 = .ok (.getfield 30, 3) := by decide +kernel
theorem dX7_put_34 : decode cX7_put 34 = .ok (.getfield 156, 3) := by decide +kernel
theorem dX7_put_37 : decode cX7_put 37 = .ok (.iload_n 1, 1) := by decide +kernel
theorem dX7_put_38 : decode cX7_put 38 = .ok (.iaload, 1) := by decide +kernel
theorem dX7_put_39 : decode cX7_put 39 = .ok (.istore_n 3, 1) := by decide +kernel
theorem dX7_put_40 : decode cX7_put 40 = .ok (.iload_n 3, 1) := by decide +kernel
theorem dX7_put_41 : decode cX7_put 41 = .ok (.iload_n 2, 1) := by decide +kernel
theorem dX7_put_42 : decode cX7_put 42 = .ok (.if_icmp .ne 6, 3) := by decide +kernel
