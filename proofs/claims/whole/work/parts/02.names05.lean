theorem dX3_feed_105 : decode cX3_feed 105 = .ok (.iload_n 2, 1) := by decide +kernel
theorem dX3_feed_106 : decode cX3_feed 106 = .ok (.iconst (-1), 1) := by decide +kernel
theorem dX3_feed_107 : decode cX3_feed 107 = .ok (.iastore, 1) := by decide +kernel
theorem dX3_feed_108 : decode cX3_feed 108 = .ok (.return_, 1) := by decide +kernel
set_option maxRecDepth 20000 in
theorem ggX3_isSated_J6_bitCount_0f7a4 : GoodIn wsX3_isSated wsJ6_bitCount_0f7a4 := goodIn_r _ [6, 7, 8, 9] (by decide +kernel) (by decide +kernel)
set_option maxRecDepth 20000 in
theorem gX3_isSated_J6_bitCount_0f7a4 : GoodIn wsX3_isSated (va_wsS RX3 80 yJ6_bitCount_0f7a4 wsJ6_bitCount_0f7a4) := goodIn_app (goodIn_of _ (by decide +kernel)) ggX3_isSated_J6_bitCount_0f7a4
theorem dX3_isSated_0 : decode cX3_isSated 0 = .ok (.aload_n 0, 1) := by decide +kernel
theorem dX3_isSated_1 : decode cX3_isSated 1 = .ok (.getfield 21, 3) := by decide +kernel
theorem dX3_isSated_4 : decode cX3_isSated 4 = .ok (.iload_n 1, 1) := by decide +kernel
theorem dX3_isSated_5 : decode cX3_isSated 5 = .ok (.iaload, 1) := by decide +kernel
theorem dX3_isSated_6 : decode cX3_isSated 6 = .ok (.invokestatic 80, 3) := by decide +kernel
theorem dX3_isSated_9 : decode cX3_isSated 9 = .ok (.getstatic 86, 3) := by decide +kernel
theorem dX3_isSated_12 : decode cX3_isSated 12 = .ok (.aload_n 0, 1) := by decide +kernel
theorem dX3_isSated_13 : decode cX3_isSated 13 = .ok (.getfield 15, 3) := by decide +kernel
theorem dX3_isSated_16 : decode cX3_isSated 16 = .ok (.iload_n 1, 1) := by decide +kernel
theorem dX3_isSated_17 : decode cX3_isSated 17 = .ok (.iaload, 1) := by decide +kernel
theorem dX3_isSated_18 : decode cX3_isSated 18 = .ok (.iaload, 1) := by decide +kernel
theorem dX3_isSated_19 : decode cX3_isSated 19 = .ok (.if_icmp .lt 7, 3) := by decide +kernel
theorem dX3_isSated_22 : decode cX3_isSated 22 = .ok (.iconst 1, 1) := by decide +kernel
theorem dX3_isSated_23 : decode cX3_isSated 23 = .ok (.goto 4, 3) := by decide +kernel
theorem dX3_isSated_26 : decode cX3_isSated 26 = .ok (.iconst 0, 1) := by decide +kernel
theorem dX3_isSated_27 : decode cX3_isSated 27 = .ok (.ireturn, 1) := by decide +kernel
set_option maxRecDepth 20000 in
theorem ggX3_nextFact_J6_numberOfTrailingZeros_0f7a4 : GoodIn wsX3_nextFact wsJ6_numberOfTrailingZeros_0f7a4 := goodIn_r _ [4, 5] (by decide +kernel) (by decide +kernel)
set_option maxRecDepth 20000 in
theorem gX3_nextFact_J6_numberOfTrailingZeros_0f7a4 : GoodIn wsX3_nextFact (va_wsS RX3 89 yJ6_numberOfTrailingZeros_0f7a4 wsJ6_numberOfTrailingZeros_0f7a4) := goodIn_app (goodIn_of _ (by decide +kernel)) ggX3_nextFact_J6_numberOfTrailingZeros_0f7a4
set_option maxRecDepth 20000 in
theorem ggX3_nextFact_J6_numberOfLeadingZeros_0f7a4 : GoodIn wsX3_nextFact wsJ6_numberOfLeadingZeros_0f7a4 := goodIn_r _ [8, 5] (by decide +kernel) (by decide +kernel)
set_option maxRecDepth 20000 in
theorem gX3_nextFact_J6_numberOfLeadingZeros_0f7a4 : GoodIn wsX3_nextFact (va_wsS RX3 92 yJ6_numberOfLeadingZeros_0f7a4 wsJ6_numberOfLeadingZeros_0f7a4) := goodIn_app (goodIn_of _ (by decide +kernel)) ggX3_nextFact_J6_numberOfLeadingZeros_0f7a4
theorem dX3_nextFact_0 : decode cX3_nextFact 0 = .ok (.iload_n 0, 1) := by decide +kernel
theorem dX3_nextFact_1 : decode cX3_nextFact 1 = .ok (.iconst 3, 1) := by decide +kernel
theorem dX3_nextFact_2 : decode cX3_nextFact 2 = .ok (.if_icmp .eq 8, 3) := by decide +kernel
theorem dX3_nextFact_5 : decode cX3_nextFact 5 = .ok (.iload_n 0, 1) := by decide +kernel
theorem dX3_nextFact_6 : decode cX3_nextFact 6 = .ok (.iconst 4, 1) := by decide +kernel
theorem dX3_nextFact_7 : decode cX3_nextFact 7 = .ok (.if_icmp .ne 7, 3) := by decide +kernel
theorem dX3_nextFact_10 : decode cX3_nextFact 10 = .ok (.iconst 1, 1) := by decide +kernel
theorem dX3_nextFact_11 : decode cX3_nextFact 11 = .ok (.goto 4, 3) := by decide +kernel
theorem dX3_nextFact_14 : decode cX3_nextFact 14 = .ok (.iconst 0, 1) := by decide +kernel
theorem dX3_nextFact_15 : decode cX3_nextFact 15 = .ok (.istore_n 2, 1) := by decide +kernel
theorem dX3_nextFact_16 : decode cX3_nextFact 16 = .ok (.iload_n 2, 1) := by decide +kernel
theorem dX3_nextFact_17 : decode cX3_nextFact 17 = .ok (.ifCond .eq 10, 3) := by decide +kernel
theorem dX3_nextFact_20 : decode cX3_nextFact 20 = .ok (.iload_n 1, 1) := by decide +kernel
theorem dX3_nextFact_21 : decode cX3_nextFact 21 = .ok (.invokestatic 89, 3) := by decide +kernel
theorem dX3_nextFact_24 : decode cX3_nextFact 24 = .ok (.goto 10, 3) := by decide +kernel
theorem dX3_nextFact_27 : decode cX3_nextFact 27 = .ok (.bipush 31, 2) := by decide +kernel
theorem dX3_nextFact_29 : decode cX3_nextFact 29 = .ok (.iload_n 1, 1) := by decide +kernel
theorem dX3_nextFact_30 : decode cX3_nextFact 30 = .ok (.invokestatic 92, 3) := by decide +kernel
theorem dX3_nextFact_33 : decode cX3_nextFact 33 = .ok (.isub, 1) := by decide +kernel
theorem dX3_nextFact_34 : decode cX3_nextFact 34 = .ok (.ireturn, 1) := by decide +kernel
theorem dX4_init_0 : decode cX4_init 0 = .ok (.aload_n 0, 1) := by decide +kernel
theorem dX4_init_1 : decode cX4_init 1 = .ok (.invokespecial 3, 3) := by decide +kernel
theorem dX4_init_4 : decode cX4_init 4 = .ok (.aload_n 0, 1) := by decide +kernel
theorem dX4_init_5 : decode cX4_init 5 = .ok (.bipush 6, 2) := by decide +kernel
theorem dX4_init_7 : decode cX4_init 7 = .ok (.newarray .int, 2) := by decide +kernel
theorem dX4_init_9 : decode cX4_init 9 = .ok (.putfield 9, 3) := by decide +kernel
theorem dX4_init_12 : decode cX4_init 12 = .ok (.aload_n 0, 1) := by decide +kernel
theorem dX4_init_13 : decode cX4_init 13 = .ok (.bipush 6, 2) := by decide +kernel
theorem dX4_init_15 : decode cX4_init 15 = .ok (.newarray .int, 2) := by decide +kernel
theorem dX4_init_17 : decode cX4_init 17 = .ok (.putfield 15, 3) := by decide +kernel
theorem dX4_init_20 : decode cX4_init 20 = .ok (.aload_n 0, 1) := by decide +kernel
theorem dX4_init_21 : decode cX4_init 21 = .ok (.bipush 6, 2) := by decide +kernel
theorem dX4_init_23 : decode cX4_init 23 = .ok (.newarray .int, 2) := by decide +kernel
theorem dX4_init_25 : decode cX4_init 25 = .ok (.putfield 18, 3) := by decide +kernel
theorem dX4_init_28 : decode cX4_init 28 = .ok (.aload_n 0, 1) := by decide +kernel
theorem dX4_init_29 : decode cX4_init 29 = .ok (.bipush 6, 2) := by decide +kernel
theorem dX4_init_31 : decode cX4_init 31 = .ok (.newarray .int, 2) := by decide +kernel
theorem dX4_init_33 : decode cX4_init 33 = .ok (.putfield 21, 3) := by decide +kernel
theorem dX4_init_36 : decode cX4_init 36 = .ok (.return_, 1) := by decide +kernel
theorem dX4_add_0 : decode cX4_add 0 = .ok (.aload_n 0, 1) := by decide +kernel
theorem dX4_add_1 : decode cX4_add 1 = .ok (.getfield 24, 3) := by decide +kernel
theorem dX4_add_4 : decode cX4_add 4 = .ok (.bipush 6, 2) := by decide +kernel
theorem dX4_add_6 : decode cX4_add 6 = .ok (.if_icmp .ge 54, 3) := by decide +kernel
theorem dX4_add_9 : decode cX4_add 9 = .ok (.aload_n 0, 1) := by decide +kernel
theorem dX4_add_10 : decode cX4_add 10 = .ok (.getfield 9, 3) := by decide +kernel
theorem dX4_add_13 : decode cX4_add 13 = .ok (.aload_n 0, 1) := by decide +kernel
theorem dX4_add_14 : decode cX4_add 14 = .ok (.getfield 24, 3) := by decide +kernel
theorem dX4_add_17 : decode cX4_add 17 = .ok (.iload_n 1, 1) := by decide +kernel
theorem dX4_add_18 : decode cX4_add 18 = .ok (.iastore, 1) := by decide +kernel
theorem dX4_add_19 : decode cX4_add 19 = .ok (.aload_n 0, 1) := by decide +kernel
theorem dX4_add_20 : decode cX4_add 20 = .ok (.getfield 15, 3) := by decide +kernel
theorem dX4_add_23 : decode cX4_add 23 = .ok (.aload_n 0, 1) := by decide +kernel
theorem dX4_add_24 : decode cX4_add 24 = .ok (.getfield 24, 3) := by decide +kernel
theorem dX4_add_27 : decode cX4_add 27 = .ok (.iload_n 2, 1) := by decide +kernel
theorem dX4_add_28 : decode cX4_add 28 = .ok (.iastore, 1) := by decide +kernel
theorem dX4_add_29 : decode cX4_add 29 = .ok (.aload_n 0, 1) := by decide +kernel
theorem dX4_add_30 : decode cX4_add 30 = .ok (.getfield 18, 3) := by decide +kernel
theorem dX4_add_33 : decode cX4_add 33 = .ok (.aload_n 0, 1) := by decide +kernel
theorem dX4_add_34 : decode cX4_add 34 = .ok (.getfield 24, 3) := by decide +kernel
theorem dX4_add_37 : decode cX4_add 37 = .ok (.iload_n 3, 1) := by decide +kernel
theorem dX4_add_38 : decode cX4_add 38 = .ok (.iastore, 1) := by decide +kernel
theorem dX4_add_39 : decode cX4_add 39 = .ok (.aload_n 0, 1) := by decide +kernel
theorem dX4_add_40 : decode cX4_add 40 = .ok (.getfield 21, 3) := by decide +kernel
theorem dX4_add_43 : decode cX4_add 43 = .ok (.aload_n 0, 1) := by decide +kernel
theorem dX4_add_44 : decode cX4_add 44 = .ok (.getfield 24, 3) := by decide +kernel
theorem dX4_add_47 : decode cX4_add 47 = .ok (.iload 4, 2) := by decide +kernel
theorem dX4_add_49 : decode cX4_add 49 = .ok (.iastore, 1) := by decide +kernel
theorem dX4_add_50 : decode cX4_add 50 = .ok (.aload_n 0, 1) := by decide +kernel
theorem dX4_add_51 : decode cX4_add 51 = .ok (.dup, 1) := by decide +kernel
theorem dX4_add_52 : decode cX4_add 52 = .ok (.getfield 24, 3) := by decide +kernel
theorem dX4_add_55 : decode cX4_add 55 = .ok (.iconst 1, 1) := by decide +kernel
theorem dX4_add_56 : decode cX4_add 56 = .ok (.iadd, 1) := by decide +kernel
theorem dX4_add_57 : decode cX4_add 57 = .ok (.putfield 24, 3) := by decide +kernel
theorem dX4_add_60 : decode cX4_add 60 = .ok (.return_, 1) := by decide +kernel
theorem dX5_init_0 : decode cX5_init 0 = .ok (.aload_n 0, 1) := by decide +kernel
theorem dX5_init_1 : decode cX5_init 1 = .ok (.invokespecial 3, 3) := by decide +kernel
theorem dX5_init_4 : decode cX5_init 4 = .ok (.aload_n 0, 1) := by decide +kernel
theorem dX5_init_5 : decode cX5_init 5 = .ok (.iconst (-1), 1) := by decide +kernel
theorem dX5_init_6 : decode cX5_init 6 = .ok (.putfield 11, 3) := by decide +kernel
theorem dX5_init_9 : decode cX5_init 9 = .ok (.aload_n 0, 1) := by decide +kernel
theorem dX5_init_10 : decode cX5_init 10 = .ok (.bipush 10, 2) := by decide +kernel
theorem dX5_init_12 : decode cX5_init 12 = .ok (.newarray .long, 2) := by decide +kernel
theorem dX5_init_14 : decode cX5_init 14 = .ok (.putfield 15, 3) := by decide +kernel
theorem dX5_init_17 : decode cX5_init 17 = .ok (.aload_n 0, 1) := by decide +kernel
theorem dX5_init_18 : decode cX5_init 18 = .ok (.bipush 10, 2) := by decide +kernel
theorem dX5_init_20 : decode cX5_init 20 = .ok (.newarray .long, 2) := by decide +kernel
theorem dX5_init_22 : decode cX5_init 22 = .ok (.putfield 19, 3) := by decide +kernel
theorem dX5_init_25 : decode cX5_init 25 = .ok (.return_, 1) := by decide +kernel
theorem dX5_begin_0 : decode cX5_begin 0 = .ok (.aload_n 0, 1) := by decide +kernel
theorem dX5_begin_1 : decode cX5_begin 1 = .ok (.iload_n 1, 1) := by decide +kernel
theorem dX5_begin_2 : decode cX5_begin 2 = .ok (.putfield 11, 3) := by decide +kernel
theorem dX5_begin_5 : decode cX5_begin 5 = .ok (.aload_n 0, 1) := by decide +kernel
theorem dX5_begin_6 : decode cX5_begin 6 = .ok (.iload_n 2, 1) := by decide +kernel
theorem dX5_begin_7 : decode cX5_begin 7 = .ok (.putfield 22, 3) := by decide +kernel
theorem dX5_begin_10 : decode cX5_begin 10 = .ok (.iconst 0, 1) := by decide +kernel
theorem dX5_begin_11 : decode cX5_begin 11 = .ok (.istore_n 3, 1) := by decide +kernel
theorem dX5_begin_12 : decode cX5_begin 12 = .ok (.iload_n 3, 1) := by decide +kernel
theorem dX5_begin_13 : decode cX5_begin 13 = .ok (.bipush 10, 2) := by decide +kernel
theorem dX5_begin_15 : decode cX5_begin 15 = .ok (.if_icmp .ge 23, 3) := by decide +kernel
theorem dX5_begin_18 : decode cX5_begin 18 = .ok (.aload_n 0, 1) := by decide +kernel
theorem dX5_begin_19 : decode cX5_begin 19 = .ok (.getfield 15, 3) := by decide +kernel
theorem dX5_begin_22 : decode cX5_begin 22 = .ok (.iload_n 3, 1) := by decide +kernel
theorem dX5_begin_23 : decode cX5_begin 23 = .ok (.lconst 0, 1) := by decide +kernel
theorem dX5_begin_24 : decode cX5_begin 24 = .ok (.lastore, 1) := by decide +kernel
theorem dX5_begin_25 : decode cX5_begin 25 = .ok (.aload_n 0, 1) := by decide +kernel
theorem dX5_begin_26 : decode cX5_begin 26 = .ok (.getfield 19, 3) := by decide +kernel
theorem dX5_begin_29 : decode cX5_begin 29 = .ok (.iload_n 3, 1) := by decide +kernel
theorem dX5_begin_30 : decode cX5_begin 30 = .ok (.lconst 0, 1) := by decide +kernel
theorem dX5_begin_31 : decode cX5_begin 31 = .ok (.lastore, 1) := by decide +kernel
theorem dX5_begin_32 : decode cX5_begin 32 = .ok (.iinc 3 1, 3) := by decide +kernel
theorem dX5_begin_35 : decode cX5_begin 35 = .ok (.goto (-23), 3) := by decide +kernel
theorem dX5_begin_38 : decode cX5_begin 38 = .ok (.return_, 1) := by decide +kernel
theorem dX5_setMissing_0 : decode cX5_setMissing 0 = .ok (.aload_n 0, 1) := by decide +kernel
theorem dX5_setMissing_1 : decode cX5_setMissing 1 = .ok (.iconst (-1), 1) := by decide +kernel
theorem dX5_setMissing_2 : decode cX5_setMissing 2 = .ok (.putfield 11, 3) := by decide +kernel
theorem dX5_setMissing_5 : decode cX5_setMissing 5 = .ok (.aload_n 0, 1) := by decide +kernel
theorem dX5_setMissing_6 : decode cX5_setMissing 6 = .ok (.iconst 0, 1) := by decide +kernel
theorem dX5_setMissing_7 : decode cX5_setMissing 7 = .ok (.putfield 22, 3) := by decide +kernel
theorem dX5_setMissing_10 : decode cX5_setMissing 10 = .ok (.return_, 1) := by decide +kernel
theorem dX5_isMissing_0 : decode cX5_isMissing 0 = .ok (.aload_n 0, 1) := by decide +kernel
theorem dX5_isMissing_1 : decode cX5_isMissing 1 = .ok (.getfield 11, 3) := by decide +kernel
theorem dX5_isMissing_4 : decode cX5_isMissing 4 = .ok (.iconst (-1), 1) := by decide +kernel
theorem dX5_isMissing_5 : decode cX5_isMissing 5 = .ok (.if_icmp .ne 7, 3) := by decide +kernel
theorem dX5_isMissing_8 : decode cX5_isMissing 8 = .ok (.iconst 1, 1) := by decide +kernel
theorem dX5_isMissing_9 : decode cX5_isMissing 9 = .ok (.goto 4, 3) := by decide +kernel
theorem dX5_isMissing_12 : decode cX5_isMissing 12 = .ok (.iconst 0, 1) := by decide +kernel
theorem dX5_isMissing_13 : decode cX5_isMissing 13 = .ok (.ireturn, 1) := by decide +kernel
theorem dX5_hasPlace_0 : decode cX5_hasPlace 0 = .ok (.iload_n 1, 1) := by decide +kernel
theorem dX5_hasPlace_1 : decode cX5_hasPlace 1 = .ok (.ifCond .lt 15, 3) := by decide +kernel
theorem dX5_hasPlace_4 : decode cX5_hasPlace 4 = .ok (.iload_n 1, 1) := by decide +kernel
theorem dX5_hasPlace_5 : decode cX5_hasPlace 5 = .ok (.aload_n 0, 1) := by decide +kernel
theorem dX5_hasPlace_6 : decode cX5_hasPlace 6 = .ok (.getfield 22, 3) := by decide +kernel
theorem dX5_hasPlace_9 : decode cX5_hasPlace 9 = .ok (.if_icmp .ge 7, 3) := by decide +kernel
theorem dX5_hasPlace_12 : decode cX5_hasPlace 12 = .ok (.iconst 1, 1) := by decide +kernel
theorem dX5_hasPlace_13 : decode cX5_hasPlace 13 = .ok (.goto 4, 3) := by decide +kernel
theorem dX5_hasPlace_16 : decode cX5_hasPlace 16 = .ok (.iconst 0, 1) := by decide +kernel
theorem dX5_hasPlace_17 : decode cX5_hasPlace 17 = .ok (.ireturn, 1) := by decide +kernel
theorem dX5_hasRow_0 : decode cX5_hasRow 0 = .ok (.iload_n 1, 1) := by decide +kernel
theorem dX5_hasRow_1 : decode cX5_hasRow 1 = .ok (.ifCond .lt 25, 3) := by decide +kernel
theorem dX5_hasRow_4 : decode cX5_hasRow 4 = .ok (.iload_n 2, 1) := by decide +kernel
theorem dX5_hasRow_5 : decode cX5_hasRow 5 = .ok (.ifCond .lt 21, 3) := by decide +kernel
theorem dX5_hasRow_8 : decode cX5_hasRow 8 = .ok (.iload_n 1, 1) := by decide +kernel
theorem dX5_hasRow_9 : decode cX5_hasRow 9 = .ok (.i2l, 1) := by decide +kernel
theorem dX5_hasRow_10 : decode cX5_hasRow 10 = .ok (.iload_n 2, 1) := by decide +kernel
theorem dX5_hasRow_11 : decode cX5_hasRow 11 = .ok (.i2l, 1) := by decide +kernel
theorem dX5_hasRow_12 : decode cX5_hasRow 12 = .ok (.ladd, 1) := by decide +kernel
theorem dX5_hasRow_13 : decode cX5_hasRow 13 = .ok (.aload_n 0, 1) := by decide +kernel
theorem dX5_hasRow_14 : decode cX5_hasRow 14 = .ok (.getfield 22, 3) := by decide +kernel
theorem dX5_hasRow_17 : decode cX5_hasRow 17 = .ok (.i2l, 1) := by decide +kernel
theorem dX5_hasRow_18 : decode cX5_hasRow 18 = .ok (.lcmp, 1) := by decide +kernel
theorem dX5_hasRow_19 : decode cX5_hasRow 19 = .ok (.ifCond .gt 7, 3) := by decide +kernel
theorem dX5_hasRow_22 : decode cX5_hasRow 22 = .ok (.iconst 1, 1) := by decide +kernel
theorem dX5_hasRow_23 : decode cX5_hasRow 23 = .ok (.goto 4, 3) := by decide +kernel
theorem dX5_hasRow_26 : decode cX5_hasRow 26 = .ok (.iconst 0, 1) := by decide +kernel
theorem dX5_hasRow_27 : decode cX5_hasRow 27 = .ok (.ireturn, 1) := by decide +kernel
theorem dX5_isNothingAt_0 : decode cX5_isNothingAt 0 = .ok (.aload_n 0, 1) := by decide +kernel
theorem dX5_isNothingAt_1 : decode cX5_isNothingAt 1 = .ok (.getfield 11, 3) := by decide +kernel
theorem dX5_isNothingAt_4 : decode cX5_isNothingAt 4 = .ok (.iconst 2, 1) := by decide +kernel
theorem dX5_isNothingAt_5 : decode cX5_isNothingAt 5 = .ok (.if_icmp .ne 18, 3) := by decide +kernel
theorem dX5_isNothingAt_8 : decode cX5_isNothingAt 8 = .ok (.aload_n 0, 1) := by decide +kernel
theorem dX5_isNothingAt_9 : decode cX5_isNothingAt 9 = .ok (.getfield 19, 3) := by decide +kernel
theorem dX5_isNothingAt_12 : decode cX5_isNothingAt 12 = .ok (.iload_n 1, 1) := by decide +kernel
theorem dX5_isNothingAt_13 : decode cX5_isNothingAt 13 = .ok (.laload, 1) := by decide +kernel
theorem dX5_isNothingAt_14 : decode cX5_isNothingAt 14 = .ok (.lconst 0, 1) := by decide +kernel
theorem dX5_isNothingAt_15 : decode cX5_isNothingAt 15 = .ok (.lcmp, 1) := by decide +kernel
theorem dX5_isNothingAt_16 : decode cX5_isNothingAt 16 = .ok (.ifCond .ne 7, 3) := by decide +kernel
theorem dX5_isNothingAt_19 : decode cX5_isNothingAt 19 = .ok (.iconst 1, 1) := by decide +kernel
theorem dX5_isNothingAt_20 : decode cX5_isNothingAt 20 = .ok (.goto 4, 3) := by decide +kernel
theorem dX5_isNothingAt_23 : decode cX5_isNothingAt 23 = .ok (.iconst 0, 1) := by decide +kernel
theorem dX5_isNothingAt_24 : decode cX5_isNothingAt 24 = .ok (.ireturn, 1) := by decide +kernel
set_option maxRecDepth 20000 in
theorem ggX5_findPlace_X5_isMissing : GoodIn wsX5_findPlace wsX5_isMissing := goodIn_r _ [6, 1, 12, 13, 14, 15] (by decide +kernel) (by decide +kernel)
set_option maxRecDepth 20000 in
theorem gX5_findPlace_X5_isMissing : GoodIn wsX5_findPlace (wsV RX5 25 RX5 yX5_isMissing wsX5_isMissing) := goodIn_app (goodIn_of _ (by decide +kernel)) ggX5_findPlace_X5_isMissing
set_option maxRecDepth 20000 in
theorem ggX5_findPlace_X5_hasPlace : GoodIn wsX5_findPlace wsX5_hasPlace := goodIn_r _ [10, 11, 12, 13, 14, 15] (by decide +kernel) (by decide +kernel)
set_option maxRecDepth 20000 in
theorem gX5_findPlace_X5_hasPlace : GoodIn wsX5_findPlace (wsV RX5 29 RX5 yX5_hasPlace wsX5_hasPlace) := goodIn_app (goodIn_of _ (by decide +kernel)) ggX5_findPlace_X5_hasPlace
theorem dX5_findPlace_0 : decode cX5_findPlace 0 = .ok (.aload_n 0, 1) := by decide +kernel
theorem dX5_findPlace_1 : decode cX5_findPlace 1 = .ok (.invokevirtual 25, 3) := by decide +kernel
theorem dX5_findPlace_4 : decode cX5_findPlace 4 = .ok (.ifCond .eq 6, 3) := by decide +kernel
theorem dX5_findPlace_7 : decode cX5_findPlace 7 = .ok (.bipush (-11), 2) := by decide +kernel
theorem dX5_findPlace_9 : decode cX5_findPlace 9 = .ok (.ireturn, 1) := by decide +kernel
theorem dX5_findPlace_10 : decode cX5_findPlace 10 = .ok (.aload_n 0, 1) := by decide +kernel
theorem dX5_findPlace_11 : decode cX5_findPlace 11 = .ok (.getfield 11, 3) := by decide +kernel
theorem dX5_findPlace_14 : decode cX5_findPlace 14 = .ok (.iload_n 1, 1) := by decide +kernel
theorem dX5_findPlace_15 : decode cX5_findPlace 15 = .ok (.if_icmp .eq 6, 3) := by decide +kernel
theorem dX5_findPlace_18 : decode cX5_findPlace 18 = .ok (.bipush (-12), 2) := by decide +kernel
theorem dX5_findPlace_20 : decode cX5_findPlace 20 = .ok (.ireturn, 1) := by decide +kernel
theorem dX5_findPlace_21 : decode cX5_findPlace 21 = .ok (.aload_n 0, 1) := by decide +kernel
theorem dX5_findPlace_22 : decode cX5_findPlace 22 = .ok (.iload_n 2, 1) := by decide +kernel
theorem dX5_findPlace_23 : decode cX5_findPlace 23 = .ok (.invokevirtual 29, 3) := by decide +kernel
theorem dX5_findPlace_26 : decode cX5_findPlace 26 = .ok (.ifCond .eq 7, 3) := by decide +kernel
theorem dX5_findPlace_29 : decode cX5_findPlace 29 = .ok (.iconst 0, 1) := by decide +kernel
theorem dX5_findPlace_30 : decode cX5_findPlace 30 = .ok (.goto 5, 3) := by decide +kernel
theorem dX5_findPlace_33 : decode cX5_findPlace 33 = .ok (.bipush (-14), 2) := by decide +kernel
theorem dX5_findPlace_35 : decode cX5_findPlace 35 = .ok (.ireturn, 1) := by decide +kernel
set_option maxRecDepth 20000 in
theorem ggX5_findParts_X5_findPlace : GoodIn wsX5_findParts wsX5_findPlace := goodIn_r _ [5, 6, 7, 8, 9, 4, 10, 11, 12, 13, 14, 15, 21, 22, 23, 24] (by decide +kernel) (by decide +kernel)
set_option maxRecDepth 20000 in
theorem gX5_findParts_X5_findPlace : GoodIn wsX5_findParts (wsV RX5 33 RX5 yX5_findPlace wsX5_findPlace) := goodIn_app (goodIn_of _ (by decide +kernel)) ggX5_findParts_X5_findPlace
set_option maxRecDepth 20000 in
theorem ggX5_findParts_X5_hasPlace : GoodIn wsX5_findParts wsX5_hasPlace := goodIn_r _ [14, 15, 21, 22, 23, 24] (by decide +kernel) (by decide +kernel)
set_option maxRecDepth 20000 in
theorem gX5_findParts_X5_hasPlace : GoodIn wsX5_findParts (wsV RX5 29 RX5 yX5_hasPlace wsX5_hasPlace) := goodIn_app (goodIn_of _ (by decide +kernel)) ggX5_findParts_X5_hasPlace
set_option maxRecDepth 20000 in
theorem ggX5_findParts_X5_isNothingAt : GoodIn wsX5_findParts wsX5_isNothingAt := goodIn_r _ [19, 6, 20, 21, 22, 23, 24] (by decide +kernel) (by decide +kernel)
set_option maxRecDepth 20000 in
theorem gX5_findParts_X5_isNothingAt : GoodIn wsX5_findParts (wsV RX5 37 RX5 yX5_isNothingAt wsX5_isNothingAt) := goodIn_app (goodIn_of _ (by decide +kernel)) ggX5_findParts_X5_isNothingAt
theorem dX5_findParts_0 : decode cX5_findParts 0 = .ok (.aload_n 0, 1) := by decide +kernel
theorem dX5_findParts_1 : decode cX5_findParts 1 = .ok (.iconst 2, 1) := by decide +kernel
theorem dX5_findParts_2 : decode cX5_findParts 2 = .ok (.iload_n 2, 1) := by decide +kernel
theorem dX5_findParts_3 : decode cX5_findParts 3 = .ok (.invokevirtual 33, 3) := by decide +kernel
theorem dX5_findParts_6 : decode cX5_findParts 6 = .ok (.istore 4, 2) := by decide +kernel
theorem dX5_findParts_8 : decode cX5_findParts 8 = .ok (.iload 4, 2) := by decide +kernel
theorem dX5_findParts_10 : decode cX5_findParts 10 = .ok (.ifCond .eq 6, 3) := by decide +kernel
theorem dX5_findParts_13 : decode cX5_findParts 13 = .ok (.iload 4, 2) := by decide +kernel
theorem dX5_findParts_15 : decode cX5_findParts 15 = .ok (.ireturn, 1) := by decide +kernel
theorem dX5_findParts_16 : decode cX5_findParts 16 = .ok (.aload_n 0, 1) := by decide +kernel
theorem dX5_findParts_17 : decode cX5_findParts 17 = .ok (.iload_n 3, 1) := by decide +kernel
theorem dX5_findParts_18 : decode cX5_findParts 18 = .ok (.invokevirtual 29, 3) := by decide +kernel
theorem dX5_findParts_21 : decode cX5_findParts 21 = .ok (.ifCond .eq 11, 3) := by decide +kernel
theorem dX5_findParts_24 : decode cX5_findParts 24 = .ok (.aload_n 0, 1) := by decide +kernel
theorem dX5_findParts_25 : decode cX5_findParts 25 = .ok (.iload_n 1, 1) := by decide +kernel
theorem dX5_findParts_26 : decode cX5_findParts 26 = .ok (.invokevirtual 29, 3) := by decide +kernel
theorem dX5_findParts_29 : decode cX5_findParts 29 = .ok (.ifCond .ne 6, 3) := by decide +kernel
theorem dX5_findParts_32 : decode cX5_findParts 32 = .ok (.bipush (-14), 2) := by decide +kernel
theorem dX5_findParts_34 : decode cX5_findParts 34 = .ok (.ireturn, 1) := by decide +kernel
theorem dX5_findParts_35 : decode cX5_findParts 35 = .ok (.aload_n 0, 1) := by decide +kernel
theorem dX5_findParts_36 : decode cX5_findParts 36 = .ok (.iload_n 2, 1) := by decide +kernel
theorem dX5_findParts_37 : decode cX5_findParts 37 = .ok (.invokevirtual 37, 3) := by decide +kernel
theorem dX5_findParts_40 : decode cX5_findParts 40 = .ok (.ifCond .ne 11, 3) := by decide +kernel
theorem dX5_findParts_43 : decode cX5_findParts 43 = .ok (.aload_n 0, 1) := by decide +kernel
theorem dX5_findParts_44 : decode cX5_findParts 44 = .ok (.iload_n 3, 1) := by decide +kernel
theorem dX5_findParts_45 : decode cX5_findParts 45 = .ok (.invokevirtual 37, 3) := by decide +kernel
theorem dX5_findParts_48 : decode cX5_findParts 48 = .ok (.ifCond .eq 8, 3) := by decide +kernel
theorem dX5_findParts_51 : decode cX5_findParts 51 = .ok (.bipush (-15), 2) := by decide +kernel
theorem dX5_findParts_53 : decode cX5_findParts 53 = .ok (.goto 4, 3) := by decide +kernel
theorem dX5_findParts_56 : decode cX5_findParts 56 = .ok (.iconst 0, 1) := by decide +kernel
theorem dX5_findParts_57 : decode cX5_findParts 57 = .ok (.ireturn, 1) := by decide +kernel
set_option maxRecDepth 20000 in
theorem ggX5_setPlace_X1_setLowest : GoodIn wsX5_setPlace wsX1_setLowest := goodIn_r _ [8, 9, 10, 11, 12, 13, 14, 15, 16, 7, 17, 30, 31] (by decide +kernel) (by decide +kernel)
set_option maxRecDepth 20000 in
theorem gX5_setPlace_X1_setLowest : GoodIn wsX5_setPlace (wsV RX5 40 RX1 yX1_setLowest wsX1_setLowest) := goodIn_app (goodIn_of _ (by decide +kernel)) ggX5_setPlace_X1_setLowest
set_option maxRecDepth 20000 in
theorem ggX5_setPlace_X5_setPart : GoodIn wsX5_setPlace wsX5_setPart := goodIn_r _ [22, 2, 23, 24, 25, 26, 27, 28, 29, 30, 31] (by decide +kernel) (by decide +kernel)
set_option maxRecDepth 20000 in
theorem gX5_setPlace_X5_setPart : GoodIn wsX5_setPlace (wsV RX5 46 RX5 yX5_setPart wsX5_setPart) := goodIn_app (goodIn_of _ (by decide +kernel)) ggX5_setPlace_X5_setPart
theorem dX5_setPlace_0 : decode cX5_setPlace 0 = .ok (.aload_n 0, 1) := by decide +kernel
theorem dX5_setPlace_1 : decode cX5_setPlace 1 = .ok (.getfield 11, 3) := by decide +kernel
theorem dX5_setPlace_4 : decode cX5_setPlace 4 = .ok (.iconst 2, 1) := by decide +kernel
theorem dX5_setPlace_5 : decode cX5_setPlace 5 = .ok (.if_icmp .ne 22, 3) := by decide +kernel
theorem dX5_setPlace_8 : decode cX5_setPlace 8 = .ok (.aload 4, 2) := by decide +kernel
theorem dX5_setPlace_10 : decode cX5_setPlace 10 = .ok (.iload_n 2, 1) := by decide +kernel
theorem dX5_setPlace_11 : decode cX5_setPlace 11 = .ok (.i2l, 1) := by decide +kernel
theorem dX5_setPlace_12 : decode cX5_setPlace 12 = .ok (.iload_n 3, 1) := by decide +kernel
theorem dX5_setPlace_13 : decode cX5_setPlace 13 = .ok (.i2l, 1) := by decide +kernel
theorem dX5_setPlace_14 : decode cX5_setPlace 14 = .ok (.invokevirtual 40, 3) := by decide +kernel
theorem dX5_setPlace_17 : decode cX5_setPlace 17 = .ok (.aload_n 0, 1) := by decide +kernel
theorem dX5_setPlace_18 : decode cX5_setPlace 18 = .ok (.iload_n 1, 1) := by decide +kernel
theorem dX5_setPlace_19 : decode cX5_setPlace 19 = .ok (.aload 4, 2) := by decide +kernel
theorem dX5_setPlace_21 : decode cX5_setPlace 21 = .ok (.invokevirtual 46, 3) := by decide +kernel
theorem dX5_setPlace_24 : decode cX5_setPlace 24 = .ok (.goto 30, 3) := by decide +kernel
theorem dX5_setPlace_27 : decode cX5_setPlace 27 = .ok (.aload_n 0, 1) := by decide +kernel
theorem dX5_setPlace_28 : decode cX5_setPlace 28 = .ok (.getfield 15, 3) := by decide +kernel
theorem dX5_setPlace_31 : decode cX5_setPlace 31 = .ok (.iload_n 1, 1) := by decide +kernel
theorem dX5_setPlace_32 : decode cX5_setPlace 32 = .ok (.aload_n 0, 1) := by decide +kernel
theorem dX5_setPlace_33 : decode cX5_setPlace 33 = .ok (.getfield 11, 3) := by decide +kernel
theorem dX5_setPlace_36 : decode cX5_setPlace 36 = .ok (.ifCond .ne 8, 3) := by decide +kernel
theorem dX5_setPlace_39 : decode cX5_setPlace 39 = .ok (.iload_n 2, 1) := by decide +kernel
theorem dX5_setPlace_40 : decode cX5_setPlace 40 = .ok (.i2l, 1) := by decide +kernel
theorem dX5_setPlace_41 : decode cX5_setPlace 41 = .ok (.goto 12, 3) := by decide +kernel
theorem dX5_setPlace_44 : decode cX5_setPlace 44 = .ok (.iload_n 2, 1) := by decide +kernel
theorem dX5_setPlace_45 : decode cX5_setPlace 45 = .ok (.i2l, 1) := by decide +kernel
theorem dX5_setPlace_46 : decode cX5_setPlace 46 = .ok (.ldc2_w 50, 3) := by decide +kernel
theorem dX5_setPlace_49 : decode cX5_setPlace 49 = .ok (.lmul, 1) := by decide +kernel
theorem dX5_setPlace_50 : decode cX5_setPlace 50 = .ok (.iload_n 3, 1) := by decide +kernel
theorem dX5_setPlace_51 : decode cX5_setPlace 51 = .ok (.i2l, 1) := by decide +kernel
theorem dX5_setPlace_52 : decode cX5_setPlace 52 = .ok (.ladd, 1) := by decide +kernel
theorem dX5_setPlace_53 : decode cX5_setPlace 53 = .ok (.lastore, 1) := by decide +kernel
theorem dX5_setPlace_54 : decode cX5_setPlace 54 = .ok (.return_, 1) := by decide +kernel
theorem dX5_setPart_0 : decode cX5_setPart 0 = .ok (.aload_n 0, 1) := by decide +kernel
theorem dX5_setPart_1 : decode cX5_setPart 1 = .ok (.getfield 15, 3) := by decide +kernel
theorem dX5_setPart_4 : decode cX5_setPart 4 = .ok (.iload_n 1, 1) := by decide +kernel
theorem dX5_setPart_5 : decode cX5_setPart 5 = .ok (.aload_n 2, 1) := by decide +kernel
theorem dX5_setPart_6 : decode cX5_setPart 6 = .ok (.getfield 52, 3) := by decide +kernel
theorem dX5_setPart_9 : decode cX5_setPart 9 = .ok (.lastore, 1) := by decide +kernel
theorem dX5_setPart_10 : decode cX5_setPart 10 = .ok (.aload_n 0, 1) := by decide +kernel
theorem dX5_setPart_11 : decode cX5_setPart 11 = .ok (.getfield 19, 3) := by decide +kernel
theorem dX5_setPart_14 : decode cX5_setPart 14 = .ok (.iload_n 1, 1) := by decide +kernel
theorem dX5_setPart_15 : decode cX5_setPart 15 = .ok (.aload_n 2, 1) := by decide +kernel
theorem dX5_setPart_16 : decode cX5_setPart 16 = .ok (.getfield 56, 3) := by decide +kernel
theorem dX5_setPart_19 : decode cX5_setPart 19 = .ok (.lastore, 1) := by decide +kernel
theorem dX5_setPart_20 : decode cX5_setPart 20 = .ok (.return_, 1) := by decide +kernel
theorem dX5_shown_0 : decode cX5_shown 0 = .ok (.aload_n 0, 1) := by decide +kernel
theorem dX5_shown_1 : decode cX5_shown 1 = .ok (.getfield 11, 3) := by decide +kernel
theorem dX5_shown_4 : decode cX5_shown 4 = .ok (.iconst 2, 1) := by decide +kernel
theorem dX5_shown_5 : decode cX5_shown 5 = .ok (.if_icmp .ne 28, 3) := by decide +kernel
theorem dX5_shown_8 : decode cX5_shown 8 = .ok (.iload_n 2, 1) := by decide +kernel
theorem dX5_shown_9 : decode cX5_shown 9 = .ok (.ifCond .ne 16, 3) := by decide +kernel
theorem dX5_shown_12 : decode cX5_shown 12 = .ok (.aload_n 0, 1) := by decide +kernel
theorem dX5_shown_13 : decode cX5_shown 13 = .ok (.getfield 15, 3) := by decide +kernel
theorem dX5_shown_16 : decode cX5_shown 16 = .ok (.iload_n 1, 1) := by decide +kernel
theorem dX5_shown_17 : decode cX5_shown 17 = .ok (.laload, 1) := by decide +kernel
theorem dX5_shown_18 : decode cX5_shown 18 = .ok (.ldc2_w 58, 3) := by decide +kernel
theorem dX5_shown_21 : decode cX5_shown 21 = .ok (.ladd, 1) := by decide +kernel
theorem dX5_shown_22 : decode cX5_shown 22 = .ok (.goto 9, 3) := by decide +kernel
theorem dX5_shown_25 : decode cX5_shown 25 = .ok (.aload_n 0, 1) := by decide +kernel
theorem dX5_shown_26 : decode cX5_shown 26 = .ok (.getfield 19, 3) := by decide +kernel
theorem dX5_shown_29 : decode cX5_shown 29 = .ok (.iload_n 1, 1) := by decide +kernel
theorem dX5_shown_30 : decode cX5_shown 30 = .ok (.laload, 1) := by decide +kernel
theorem dX5_shown_31 : decode cX5_shown 31 = .ok (.l2i, 1) := by decide +kernel
theorem dX5_shown_32 : decode cX5_shown 32 = .ok (.ireturn, 1) := by decide +kernel
theorem dX5_shown_33 : decode cX5_shown 33 = .ok (.aload_n 0, 1) := by decide +kernel
theorem dX5_shown_34 : decode cX5_shown 34 = .ok (.getfield 15, 3) := by decide +kernel
theorem dX5_shown_37 : decode cX5_shown 37 = .ok (.iload_n 1, 1) := by decide +kernel
theorem dX5_shown_38 : decode cX5_shown 38 = .ok (.laload, 1) := by decide +kernel
theorem dX5_shown_39 : decode cX5_shown 39 = .ok (.invokestatic 60, 3) := by decide +kernel
theorem dX5_shown_42 : decode cX5_shown 42 = .ok (.ldc2_w 66, 3) := by decide +kernel
theorem dX5_shown_45 : decode cX5_shown 45 = .ok (.lrem, 1) := by decide +kernel
theorem dX5_shown_46 : decode cX5_shown 46 = .ok (.l2i, 1) := by decide +kernel
theorem dX5_shown_47 : decode cX5_shown 47 = .ok (.istore_n 3, 1) := by decide +kernel
theorem dX5_shown_48 : decode cX5_shown 48 = .ok (.aload_n 0, 1) := by decide +kernel
theorem dX5_shown_49 : decode cX5_shown 49 = .ok (.getfield 15, 3) := by decide +kernel
theorem dX5_shown_52 : decode cX5_shown 52 = .ok (.iload_n 1, 1) := by decide +kernel
theorem dX5_shown_53 : decode cX5_shown 53 = .ok (.laload, 1) := by decide +kernel
theorem dX5_shown_54 : decode cX5_shown 54 = .ok (.lconst 0, 1) := by decide +kernel
theorem dX5_shown_55 : decode cX5_shown 55 = .ok (.lcmp, 1) := by decide +kernel
theorem dX5_shown_56 : decode cX5_shown 56 = .ok (.ifCond .ge 10, 3) := by decide +kernel
theorem dX5_shown_59 : decode cX5_shown 59 = .ok (.iload_n 3, 1) := by decide +kernel
theorem dX5_shown_60 : decode cX5_shown 60 = .ok (.ldc 68, 2) := by decide +kernel
theorem dX5_shown_62 : decode cX5_shown 62 = .ok (.iadd, 1) := by decide +kernel
theorem dX5_shown_63 : decode cX5_shown 63 = .ok (.goto 4, 3) := by decide +kernel
theorem dX5_shown_66 : decode cX5_shown 66 = .ok (.iload_n 3, 1) := by decide +kernel
theorem dX5_shown_67 : decode cX5_shown 67 = .ok (.ireturn, 1) := by decide +kernel
theorem dX5_copyTo_0 : decode cX5_copyTo 0 = .ok (.aload_n 0, 1) := by decide +kernel
theorem dX5_copyTo_1 : decode cX5_copyTo 1 = .ok (.getfield 15, 3) := by decide +kernel
theorem dX5_copyTo_4 : decode cX5_copyTo 4 = .ok (.iload_n 2, 1) := by decide +kernel
theorem dX5_copyTo_5 : decode cX5_copyTo 5 = .ok (.aload_n 1, 1) := by decide +kernel
theorem dX5_copyTo_6 : decode cX5_copyTo 6 = .ok (.getfield 15, 3) := by decide +kernel
theorem dX5_copyTo_9 : decode cX5_copyTo 9 = .ok (.iload_n 3, 1) := by decide +kernel
theorem dX5_copyTo_10 : decode cX5_copyTo 10 = .ok (.iload 4, 2) := by decide +kernel
theorem dX5_copyTo_12 : decode cX5_copyTo 12 = .ok (.invokestatic 69, 3) := by decide +kernel
theorem dX5_copyTo_15 : decode cX5_copyTo 15 = .ok (.aload_n 0, 1) := by decide +kernel
theorem dX5_copyTo_16 : decode cX5_copyTo 16 = .ok (.getfield 19, 3) := by decide +kernel
theorem dX5_copyTo_19 : decode cX5_copyTo 19 = .ok (.iload_n 2, 1) := by decide +kernel
theorem dX5_copyTo_20 : decode cX5_copyTo 20 = .ok (.aload_n 1, 1) := by decide +kernel
theorem dX5_copyTo_21 : decode cX5_copyTo 21 = .ok (.getfield 19, 3) := by decide +kernel
theorem dX5_copyTo_24 : decode cX5_copyTo 24 = .ok (.iload_n 3, 1) := by decide +kernel
theorem dX5_copyTo_25 : decode cX5_copyTo 25 = .ok (.iload 4, 2) := by decide +kernel
theorem dX5_copyTo_27 : decode cX5_copyTo 27 = .ok (.invokestatic 69, 3) := by decide +kernel
theorem dX5_copyTo_30 : decode cX5_copyTo 30 = .ok (.return_, 1) := by decide +kernel
set_option maxRecDepth 20000 in
theorem ggX6_init_X0_init : GoodIn wsX6_init wsX0_init := goodIn_r _ [15, 16, 2, 3, 4, 17, 18, 19, 34, 35, 36, 37] (by decide +kernel) (by decide +kernel)
set_option maxRecDepth 20000 in
theorem gX6_init_X0_init_n17 : GoodIn wsX6_init (wsX0_init) := ggX6_init_X0_init
set_option maxRecDepth 20000 in
theorem ggX6_init_X3_init : GoodIn wsX6_init wsX3_init := goodIn_r _ [21, 22, 2, 3, 4, 23, 24, 25, 26, 38, 39, 40, 41, 42, 43, 44, 45] (by decide +kernel) (by decide +kernel)
set_option maxRecDepth 20000 in
theorem gX6_init_X3_init_n24 : GoodIn wsX6_init (wsX3_init) := ggX6_init_X3_init
theorem dX6_init_0 : decode cX6_init 0 = .ok (.aload_n 0, 1) := by decide +kernel
theorem dX6_init_1 : decode cX6_init 1 = .ok (.invokespecial 3, 3) := by decide +kernel
theorem dX6_init_4 : decode cX6_init 4 = .ok (.aload_n 0, 1) := by decide +kernel
theorem dX6_init_5 : decode cX6_init 5 = .ok (.sipush 200, 3) := by decide +kernel
theorem dX6_init_8 : decode cX6_init 8 = .ok (.newarray .int, 2) := by decide +kernel
theorem dX6_init_10 : decode cX6_init 10 = .ok (.putfield 9, 3) := by decide +kernel
theorem dX6_init_13 : decode cX6_init 13 = .ok (.aload_n 0, 1) := by decide +kernel
theorem dX6_init_14 : decode cX6_init 14 = .ok (.new 15, 3) := by decide +kernel
theorem dX6_init_17 : decode cX6_init 17 = .ok (.dup, 1) := by decide +kernel
theorem dX6_init_18 : decode cX6_init 18 = .ok (.invokespecial 17, 3) := by decide +kernel
theorem dX6_init_21 : decode cX6_init 21 = .ok (.putfield 18, 3) := by decide +kernel
theorem dX6_init_24 : decode cX6_init 24 = .ok (.aload_n 0, 1) := by decide +kernel
theorem dX6_init_25 : decode cX6_init 25 = .ok (.new 22, 3) := by decide +kernel
theorem dX6_init_28 : decode cX6_init 28 = .ok (.dup, 1) := by decide +kernel
theorem dX6_init_29 : decode cX6_init 29 = .ok (.invokespecial 24, 3) := by decide +kernel
theorem dX6_init_32 : decode cX6_init 32 = .ok (.putfield 25, 3) := by decide +kernel
theorem dX6_init_35 : decode cX6_init 35 = .ok (.return_, 1) := by decide +kernel
set_option maxRecDepth 20000 in
theorem ggX6_parse_X0_setAs : GoodIn wsX6_parse wsX0_setAs := goodIn_r _ [12, 13, 14, 15, 16, 17, 18, 19, 20, 172, 173, 174, 175] (by decide +kernel) (by decide +kernel)
set_option maxRecDepth 20000 in
theorem gX6_parse_X0_setAs : GoodIn wsX6_parse (wsV RX6 29 RX0 yX0_setAs wsX0_setAs) := goodIn_app (goodIn_of _ (by decide +kernel)) ggX6_parse_X0_setAs
set_option maxRecDepth 20000 in
theorem ggX6_parse_X3_setAs : GoodIn wsX6_parse wsX3_setAs := goodIn_r _ [25, 26, 27, 28, 29, 30, 31, 16, 17, 18, 32, 33, 34, 176, 177, 178, 179, 180, 181, 182, 183] (by decide +kernel) (by decide +kernel)
set_option maxRecDepth 20000 in
theorem gX6_parse_X3_setAs : GoodIn wsX6_parse (wsV RX6 33 RX3 yX3_setAs wsX3_setAs) := goodIn_app (goodIn_of _ (by decide +kernel)) ggX6_parse_X3_setAs
set_option maxRecDepth 20000 in
theorem ggX6_parse_X6_step : GoodIn wsX6_parse wsX6_step := goodIn_r _ [39, 4, 5, 6, 7, 40, 41, 42, 38, 43, 44, 45, 46, 47, 165, 166, 167, 168, 169, 170, 171] (by decide +kernel) (by decide +kernel)
set_option maxRecDepth 20000 in
theorem gX6_parse_X6_step : GoodIn wsX6_parse (wsV RX6 43 RX6 yX6_step wsX6_step) := goodIn_app (goodIn_of _ (by decide +kernel)) ggX6_parse_X6_step
set_option maxRecDepth 20000 in
theorem ggX6_parse_X6_takeClause : GoodIn wsX6_parse wsX6_takeClause := goodIn_r _ [51, 1, 52, 2, 53, 54, 55, 38, 56, 4, 5, 7, 57, 58, 59, 60, 61, 62, 63, 64, 65, 66, 67, 68, 69, 70, 71, 72, 73, 74, 75, 76, 77, 78, 79, 80, 81, 82, 83, 84, 85, 86, 87, 88, 89, 90, 91, 92, 93, 94, 95, 96, 97, 98, 99, 100, 101, 102, 103, 104, 105, 106, 107, 108, 24, 109, 26, 27, 28, 29, 35, 36, 37, 39, 6, 40, 41, 42, 43, 44, 45, 46, 47, 110, 111, 112, 113, 114, 115, 116, 117, 118, 119, 120, 11, 121, 13, 122, 123, 124, 125, 14, 19, 20, 126, 127, 128, 129, 130, 131, 132, 133, 134, 135, 136, 137, 138, 139, 140, 141, 142, 30, 143, 144, 145, 146, 147, 148, 149, 150, 151, 152, 153, 154, 155, 156, 157, 158, 159, 160, 161, 162, 163, 164, 32, 33, 34, 165, 166, 167, 168, 169, 170, 171, 172, 173, 174, 175, 176, 177, 178, 179, 180, 181, 182, 183] (by decide +kernel) (by decide +kernel)
set_option maxRecDepth 20000 in
theorem gX6_parse_X6_takeClause : GoodIn wsX6_parse (wsV RX6 46 RX6 yX6_takeClause wsX6_takeClause) := goodIn_app (goodIn_of _ (by decide +kernel)) ggX6_parse_X6_takeClause
theorem dX6_parse_0 : decode cX6_parse 0 = .ok (.aload_n 0, 1) := by decide +kernel
theorem dX6_parse_1 : decode cX6_parse 1 = .ok (.getfield 18, 3) := by decide +kernel
theorem dX6_parse_4 : decode cX6_parse 4 = .ok (.aload_n 1, 1) := by decide +kernel
theorem dX6_parse_5 : decode cX6_parse 5 = .ok (.invokevirtual 29, 3) := by decide +kernel
theorem dX6_parse_8 : decode cX6_parse 8 = .ok (.aload_n 0, 1) := by decide +kernel
theorem dX6_parse_9 : decode cX6_parse 9 = .ok (.getfield 25, 3) := by decide +kernel
theorem dX6_parse_12 : decode cX6_parse 12 = .ok (.aload_n 2, 1) := by decide +kernel
theorem dX6_parse_13 : decode cX6_parse 13 = .ok (.invokevirtual 33, 3) := by decide +kernel
theorem dX6_parse_16 : decode cX6_parse 16 = .ok (.aload_n 0, 1) := by decide +kernel
theorem dX6_parse_17 : decode cX6_parse 17 = .ok (.iconst 0, 1) := by decide +kernel
theorem dX6_parse_18 : decode cX6_parse 18 = .ok (.putfield 36, 3) := by decide +kernel
theorem dX6_parse_21 : decode cX6_parse 21 = .ok (.aload_n 0, 1) := by decide +kernel
theorem dX6_parse_22 : decode cX6_parse 22 = .ok (.iconst 0, 1) := by decide +kernel
theorem dX6_parse_23 : decode cX6_parse 23 = .ok (.putfield 40, 3) := by decide +kernel
theorem dX6_parse_26 : decode cX6_parse 26 = .ok (.aload_n 0, 1) := by decide +kernel
theorem dX6_parse_27 : decode cX6_parse 27 = .ok (.invokevirtual 43, 3) := by decide +kernel
theorem dX6_parse_30 : decode cX6_parse 30 = .ok (.aload_n 0, 1) := by decide +kernel
theorem dX6_parse_31 : decode cX6_parse 31 = .ok (.getfield 36, 3) := by decide +kernel
theorem dX6_parse_34 : decode cX6_parse 34 = .ok (.bipush 20, 2) := by decide +kernel
theorem dX6_parse_36 : decode cX6_parse 36 = .ok (.if_icmp .ge 68, 3) := by decide +kernel
theorem dX6_parse_39 : decode cX6_parse 39 = .ok (.aload_n 0, 1) := by decide +kernel
theorem dX6_parse_40 : decode cX6_parse 40 = .ok (.invokevirtual 46, 3) := by decide +kernel
theorem dX6_parse_43 : decode cX6_parse 43 = .ok (.ifCond .eq 61, 3) := by decide +kernel
theorem dX6_parse_46 : decode cX6_parse 46 = .ok (.aload_n 0, 1) := by decide +kernel
theorem dX6_parse_47 : decode cX6_parse 47 = .ok (.dup, 1) := by decide +kernel
theorem dX6_parse_48 : decode cX6_parse 48 = .ok (.getfield 36, 3) := by decide +kernel
theorem dX6_parse_51 : decode cX6_parse 51 = .ok (.iconst 1, 1) := by decide +kernel
theorem dX6_parse_52 : decode cX6_parse 52 = .ok (.iadd, 1) := by decide +kernel
theorem dX6_parse_53 : decode cX6_parse 53 = .ok (.putfield 36, 3) := by decide +kernel
theorem dX6_parse_56 : decode cX6_parse 56 = .ok (.aload_n 0, 1) := by decide +kernel
theorem dX6_parse_57 : decode cX6_parse 57 = .ok (.getfield 50, 3) := by decide +kernel
theorem dX6_parse_60 : decode cX6_parse 60 = .ok (.aload_n 0, 1) := by decide +kernel
theorem dX6_parse_61 : decode cX6_parse 61 = .ok (.getfield 53, 3) := by decide +kernel
theorem dX6_parse_64 : decode cX6_parse 64 = .ok (.if_icmp .ne 5, 3) := by decide +kernel
theorem dX6_parse_67 : decode cX6_parse 67 = .ok (.iconst (-1), 1) := by decide +kernel
theorem dX6_parse_68 : decode cX6_parse 68 = .ok (.ireturn, 1) := by decide +kernel
theorem dX6_parse_69 : decode cX6_parse 69 = .ok (.aload_n 0, 1) := by decide +kernel
theorem dX6_parse_70 : decode cX6_parse 70 = .ok (.getfield 36, 3) := by decide +kernel
theorem dX6_parse_73 : decode cX6_parse 73 = .ok (.bipush 20, 2) := by decide +kernel
theorem dX6_parse_75 : decode cX6_parse 75 = .ok (.if_icmp .eq 17, 3) := by decide +kernel
theorem dX6_parse_78 : decode cX6_parse 78 = .ok (.aload_n 0, 1) := by decide +kernel
theorem dX6_parse_79 : decode cX6_parse 79 = .ok (.getfield 9, 3) := by decide +kernel
theorem dX6_parse_82 : decode cX6_parse 82 = .ok (.aload_n 0, 1) := by decide +kernel
theorem dX6_parse_83 : decode cX6_parse 83 = .ok (.getfield 50, 3) := by decide +kernel
theorem dX6_parse_86 : decode cX6_parse 86 = .ok (.iaload, 1) := by decide +kernel
theorem dX6_parse_87 : decode cX6_parse 87 = .ok (.bipush 59, 2) := by decide +kernel
theorem dX6_parse_89 : decode cX6_parse 89 = .ok (.if_icmp .eq 8, 3) := by decide +kernel
theorem dX6_parse_92 : decode cX6_parse 92 = .ok (.aload_n 0, 1) := by decide +kernel
theorem dX6_parse_93 : decode cX6_parse 93 = .ok (.getfield 50, 3) := by decide +kernel
theorem dX6_parse_96 : decode cX6_parse 96 = .ok (.ireturn, 1) := by decide +kernel
theorem dX6_parse_97 : decode cX6_parse 97 = .ok (.aload_n 0, 1) := by decide +kernel
theorem dX6_parse_98 : decode cX6_parse 98 = .ok (.invokevirtual 43, 3) := by decide +kernel
theorem dX6_parse_101 : decode cX6_parse 101 = .ok (.goto (-71), 3) := by decide +kernel
theorem dX6_parse_104 : decode cX6_parse 104 = .ok (.aload_n 0, 1) := by decide +kernel
theorem dX6_parse_105 : decode cX6_parse 105 = .ok (.getfield 50, 3) := by decide +kernel
theorem dX6_parse_108 : decode cX6_parse 108 = .ok (.ireturn, 1) := by decide +kernel
set_option maxRecDepth 20000 in
theorem ggX6_step_X6_isSmall : GoodIn wsX6_step wsX6_isSmall := goodIn_r _ [9, 3, 4, 14, 15, 16, 17, 18, 19, 20] (by decide +kernel) (by decide +kernel)
set_option maxRecDepth 20000 in
theorem gX6_step_X6_isSmall : GoodIn wsX6_step (wsV RX6 56 RX6 yX6_isSmall wsX6_isSmall) := goodIn_app (goodIn_of _ (by decide +kernel)) ggX6_step_X6_isSmall
set_option maxRecDepth 20000 in
theorem ggX6_step_X6_isDigit : GoodIn wsX6_step wsX6_isDigit := goodIn_r _ [13, 3, 4, 14, 15, 16, 17, 18, 19, 20] (by decide +kernel) (by decide +kernel)
set_option maxRecDepth 20000 in
theorem gX6_step_X6_isDigit : GoodIn wsX6_step (wsV RX6 60 RX6 yX6_isDigit wsX6_isDigit) := goodIn_app (goodIn_of _ (by decide +kernel)) ggX6_step_X6_isDigit
theorem dX6_step_0 : decode cX6_step 0 = .ok (.aload_n 0, 1) := by decide +kernel
theorem dX6_step_1 : decode cX6_step 1 = .ok (.aload_n 0, 1) := by decide +kernel
theorem dX6_step_2 : decode cX6_step 2 = .ok (.getfield 40, 3) := by decide +kernel
theorem dX6_step_5 : decode cX6_step 5 = .ok (.putfield 50, 3) := by decide +kernel
theorem dX6_step_8 : decode cX6_step 8 = .ok (.aload_n 0, 1) := by decide +kernel
theorem dX6_step_9 : decode cX6_step 9 = .ok (.getfield 50, 3) := by decide +kernel
theorem dX6_step_12 : decode cX6_step 12 = .ok (.aload_n 0, 1) := by decide +kernel
theorem dX6_step_13 : decode cX6_step 13 = .ok (.getfield 53, 3) := by decide +kernel
theorem dX6_step_16 : decode cX6_step 16 = .ok (.if_icmp .ge 30, 3) := by decide +kernel
theorem dX6_step_19 : decode cX6_step 19 = .ok (.aload_n 0, 1) := by decide +kernel
theorem dX6_step_20 : decode cX6_step 20 = .ok (.getfield 9, 3) := by decide +kernel
theorem dX6_step_23 : decode cX6_step 23 = .ok (.aload_n 0, 1) := by decide +kernel
theorem dX6_step_24 : decode cX6_step 24 = .ok (.getfield 50, 3) := by decide +kernel
theorem dX6_step_27 : decode cX6_step 27 = .ok (.iaload, 1) := by decide +kernel
theorem dX6_step_28 : decode cX6_step 28 = .ok (.bipush 32, 2) := by decide +kernel
theorem dX6_step_30 : decode cX6_step 30 = .ok (.if_icmp .ne 16, 3) := by decide +kernel
theorem dX6_step_33 : decode cX6_step 33 = .ok (.aload_n 0, 1) := by decide +kernel
theorem dX6_step_34 : decode cX6_step 34 = .ok (.dup, 1) := by decide +kernel
theorem dX6_step_35 : decode cX6_step 35 = .ok (.getfield 50, 3) := by decide +kernel
theorem dX6_step_38 : decode cX6_step 38 = .ok (.iconst 1, 1) := by decide +kernel
theorem dX6_step_39 : decode cX6_step 39 = .ok (.iadd, 1) := by decide +kernel
theorem dX6_step_40 : decode cX6_step 40 = .ok (.putfield 50, 3) := by decide +kernel
theorem dX6_step_43 : decode cX6_step 43 = .ok (.goto (-35), 3) := by decide +kernel
theorem dX6_step_46 : decode cX6_step 46 = .ok (.aload_n 0, 1) := by decide +kernel
theorem dX6_step_47 : decode cX6_step 47 = .ok (.aload_n 0, 1) := by decide +kernel
theorem dX6_step_48 : decode cX6_step 48 = .ok (.getfield 50, 3) := by decide +kernel
theorem dX6_step_51 : decode cX6_step 51 = .ok (.putfield 40, 3) := by decide +kernel
theorem dX6_step_54 : decode cX6_step 54 = .ok (.aload_n 0, 1) := by decide +kernel
theorem dX6_step_55 : decode cX6_step 55 = .ok (.aload_n 0, 1) := by decide +kernel
theorem dX6_step_56 : decode cX6_step 56 = .ok (.getfield 50, 3) := by decide +kernel
theorem dX6_step_59 : decode cX6_step 59 = .ok (.invokevirtual 56, 3) := by decide +kernel
theorem dX6_step_62 : decode cX6_step 62 = .ok (.ifCond .eq 38, 3) := by decide +kernel
theorem dX6_step_65 : decode cX6_step 65 = .ok (.aload_n 0, 1) := by decide +kernel
theorem dX6_step_66 : decode cX6_step 66 = .ok (.getfield 40, 3) := by decide +kernel
theorem dX6_step_69 : decode cX6_step 69 = .ok (.aload_n 0, 1) := by decide +kernel
theorem dX6_step_70 : decode cX6_step 70 = .ok (.getfield 53, 3) := by decide +kernel
theorem dX6_step_73 : decode cX6_step 73 = .ok (.if_icmp .ge 94, 3) := by decide +kernel
theorem dX6_step_76 : decode cX6_step 76 = .ok (.aload_n 0, 1) := by decide +kernel
theorem dX6_step_77 : decode cX6_step 77 = .ok (.aload_n 0, 1) := by decide +kernel
theorem dX6_step_78 : decode cX6_step 78 = .ok (.getfield 40, 3) := by decide +kernel
theorem dX6_step_81 : decode cX6_step 81 = .ok (.invokevirtual 56, 3) := by decide +kernel
theorem dX6_step_84 : decode cX6_step 84 = .ok (.ifCond .eq 83, 3) := by decide +kernel
theorem dX6_step_87 : decode cX6_step 87 = .ok (.aload_n 0, 1) := by decide +kernel
theorem dX6_step_88 : decode cX6_step 88 = .ok (.dup, 1) := by decide +kernel
theorem dX6_step_89 : decode cX6_step 89 = .ok (.getfield 40, 3) := by decide +kernel
theorem dX6_step_92 : decode cX6_step 92 = .ok (.iconst 1, 1) := by decide +kernel
theorem dX6_step_93 : decode cX6_step 93 = .ok (.iadd, 1) := by decide +kernel
theorem dX6_step_94 : decode cX6_step 94 = .ok (.putfield 40, 3) := by decide +kernel
theorem dX6_step_97 : decode cX6_step 97 = .ok (.goto (-32), 3) := by decide +kernel
theorem dX6_step_100 : decode cX6_step 100 = .ok (.aload_n 0, 1) := by decide +kernel
theorem dX6_step_101 : decode cX6_step 101 = .ok (.aload_n 0, 1) := by decide +kernel
theorem dX6_step_102 : decode cX6_step 102 = .ok (.getfield 50, 3) := by decide +kernel
theorem dX6_step_105 : decode cX6_step 105 = .ok (.invokevirtual 60, 3) := by decide +kernel
theorem dX6_step_108 : decode cX6_step 108 = .ok (.ifCond .eq 38, 3) := by decide +kernel
theorem dX6_step_111 : decode cX6_step 111 = .ok (.aload_n 0, 1) := by decide +kernel
theorem dX6_step_112 : decode cX6_step 112 = .ok (.getfield 40, 3) := by decide +kernel
theorem dX6_step_115 : decode cX6_step 115 = .ok (.aload_n 0, 1) := by decide +kernel
theorem dX6_step_116 : decode cX6_step 116 = .ok (.getfield 53, 3) := by decide +kernel
theorem dX6_step_119 : decode cX6_step 119 = .ok (.if_icmp .ge 48, 3) := by decide +kernel
theorem dX6_step_122 : decode cX6_step 122 = .ok (.aload_n 0, 1) := by decide +kernel
theorem dX6_step_123 : decode cX6_step 123 = .ok (.aload_n 0, 1) := by decide +kernel
theorem dX6_step_124 : decode cX6_step 124 = .ok (.getfield 40, 3) := by decide +kernel
theorem dX6_step_127 : decode cX6_step 127 = .ok (.invokevirtual 60, 3) := by decide +kernel
theorem dX6_step_130 : decode cX6_step 130 = .ok (.ifCond .eq 37, 3) := by decide +kernel
theorem dX6_step_133 : decode cX6_step 133 = .ok (.aload_n 0, 1) := by decide +kernel
theorem dX6_step_134 : decode cX6_step 134 = .ok (.dup, 1) := by decide +kernel
theorem dX6_step_135 : decode cX6_step 135 = .ok (.getfield 40, 3) := by decide +kernel
theorem dX6_step_138 : decode cX6_step 138 = .ok (.iconst 1, 1) := by decide +kernel
theorem dX6_step_139 : decode cX6_step 139 = .ok (.iadd, 1) := by decide +kernel
theorem dX6_step_140 : decode cX6_step 140 = .ok (.putfield 40, 3) := by decide +kernel
theorem dX6_step_143 : decode cX6_step 143 = .ok (.goto (-32), 3) := by decide +kernel
theorem dX6_step_146 : decode cX6_step 146 = .ok (.aload_n 0, 1) := by decide +kernel
theorem dX6_step_147 : decode cX6_step 147 = .ok (.getfield 50, 3) := by decide +kernel
theorem dX6_step_150 : decode cX6_step 150 = .ok (.aload_n 0, 1) := by decide +kernel
theorem dX6_step_151 : decode cX6_step 151 = .ok (.getfield 53, 3) := by decide +kernel
theorem dX6_step_154 : decode cX6_step 154 = .ok (.if_icmp .ge 13, 3) := by decide +kernel
theorem dX6_step_157 : decode cX6_step 157 = .ok (.aload_n 0, 1) := by decide +kernel
theorem dX6_step_158 : decode cX6_step 158 = .ok (.dup, 1) := by decide +kernel
theorem dX6_step_159 : decode cX6_step 159 = .ok (.getfield 40, 3) := by decide +kernel
theorem dX6_step_162 : decode cX6_step 162 = .ok (.iconst 1, 1) := by decide +kernel
theorem dX6_step_163 : decode cX6_step 163 = .ok (.iadd, 1) := by decide +kernel
theorem dX6_step_164 : decode cX6_step 164 = .ok (.putfield 40, 3) := by decide +kernel
theorem dX6_step_167 : decode cX6_step 167 = .ok (.return_, 1) := by decide +kernel
theorem dX6_isSmall_0 : decode cX6_isSmall 0 = .ok (.iload_n 1, 1) := by decide +kernel
theorem dX6_isSmall_1 : decode cX6_isSmall 1 = .ok (.aload_n 0, 1) := by decide +kernel
theorem dX6_isSmall_2 : decode cX6_isSmall 2 = .ok (.getfield 53, 3) := by decide +kernel
theorem dX6_isSmall_5 : decode cX6_isSmall 5 = .ok (.if_icmp .ge 29, 3) := by decide +kernel
theorem dX6_isSmall_8 : decode cX6_isSmall 8 = .ok (.aload_n 0, 1) := by decide +kernel
theorem dX6_isSmall_9 : decode cX6_isSmall 9 = .ok (.getfield 9, 3) := by decide +kernel
theorem dX6_isSmall_12 : decode cX6_isSmall 12 = .ok (.iload_n 1, 1) := by decide +kernel
theorem dX6_isSmall_13 : decode cX6_isSmall 13 = .ok (.iaload, 1) := by decide +kernel
theorem dX6_isSmall_14 : decode cX6_isSmall 14 = .ok (.bipush 97, 2) := by decide +kernel
theorem dX6_isSmall_16 : decode cX6_isSmall 16 = .ok (.if_icmp .lt 18, 3) := by decide +kernel
theorem dX6_isSmall_19 : decode cX6_isSmall 19 = .ok (.aload_n 0, 1) := by decide +kernel
theorem dX6_isSmall_20 : decode cX6_isSmall 20 = .ok (.getfield 9, 3) := by decide +kernel
theorem dX6_isSmall_23 : decode cX6_isSmall 23 = .ok (.iload_n 1, 1) := by decide +kernel
theorem dX6_isSmall_24 : decode cX6_isSmall 24 = .ok (.iaload, 1) := by decide +kernel
theorem dX6_isSmall_25 : decode cX6_isSmall 25 = .ok (.bipush 122, 2) := by decide +kernel
theorem dX6_isSmall_27 : decode cX6_isSmall 27 = .ok (.if_icmp .gt 7, 3) := by decide +kernel
theorem dX6_isSmall_30 : decode cX6_isSmall 30 = .ok (.iconst 1, 1) := by decide +kernel
theorem dX6_isSmall_31 : decode cX6_isSmall 31 = .ok (.goto 4, 3) := by decide +kernel
theorem dX6_isSmall_34 : decode cX6_isSmall 34 = .ok (.iconst 0, 1) := by decide +kernel
theorem dX6_isSmall_35 : decode cX6_isSmall 35 = .ok (.ireturn, 1) := by decide +kernel
theorem dX6_isDigit_0 : decode cX6_isDigit 0 = .ok (.iload_n 1, 1) := by decide +kernel
theorem dX6_isDigit_1 : decode cX6_isDigit 1 = .ok (.aload_n 0, 1) := by decide +kernel
theorem dX6_isDigit_2 : decode cX6_isDigit 2 = .ok (.getfield 53, 3) := by decide +kernel
theorem dX6_isDigit_5 : decode cX6_isDigit 5 = .ok (.if_icmp .ge 29, 3) := by decide +kernel
theorem dX6_isDigit_8 : decode cX6_isDigit 8 = .ok (.aload_n 0, 1) := by decide +kernel
theorem dX6_isDigit_9 : decode cX6_isDigit 9 = .ok (.getfield 9, 3) := by decide +kernel
theorem dX6_isDigit_12 : decode cX6_isDigit 12 = .ok (.iload_n 1, 1) := by decide +kernel
theorem dX6_isDigit_13 : decode cX6_isDigit 13 = .ok (.iaload, 1) := by decide +kernel
theorem dX6_isDigit_14 : decode cX6_isDigit 14 = .ok (.bipush 48, 2) := by decide +kernel
theorem dX6_isDigit_16 : decode cX6_isDigit 16 = .ok (.if_icmp .lt 18, 3) := by decide +kernel
theorem dX6_isDigit_19 : decode cX6_isDigit 19 = .ok (.aload_n 0, 1) := by decide +kernel
theorem dX6_isDigit_20 : decode cX6_isDigit 20 = .ok (.getfield 9, 3) := by decide +kernel
theorem dX6_isDigit_23 : decode cX6_isDigit 23 = .ok (.iload_n 1, 1) := by decide +kernel
theorem dX6_isDigit_24 : decode cX6_isDigit 24 = .ok (.iaload, 1) := by decide +kernel
theorem dX6_isDigit_25 : decode cX6_isDigit 25 = .ok (.bipush 57, 2) := by decide +kernel
theorem dX6_isDigit_27 : decode cX6_isDigit 27 = .ok (.if_icmp .gt 7, 3) := by decide +kernel
theorem dX6_isDigit_30 : decode cX6_isDigit 30 = .ok (.iconst 1, 1) := by decide +kernel
theorem dX6_isDigit_31 : decode cX6_isDigit 31 = .ok (.goto 4, 3) := by decide +kernel
theorem dX6_isDigit_34 : decode cX6_isDigit 34 = .ok (.iconst 0, 1) := by decide +kernel
theorem dX6_isDigit_35 : decode cX6_isDigit 35 = .ok (.ireturn, 1) := by decide +kernel
set_option maxRecDepth 20000 in
theorem ggX6_isWord_J0_length_8abf5 : GoodIn wsX6_isWord wsJ0_length_8abf5 := goodIn_r _ [8, 9, 10, 11, 12, 7, 13, 14, 15] (by decide +kernel) (by decide +kernel)
set_option maxRecDepth 20000 in
theorem gX6_isWord_J0_length_8abf5 : GoodIn wsX6_isWord (wsV RX6 63 RJ0 yJ0_length_8abf5 wsJ0_length_8abf5) := goodIn_app (goodIn_of _ (by decide +kernel)) ggX6_isWord_J0_length_8abf5
set_option maxRecDepth 20000 in
theorem ggX6_isWord_J0_charAt_5068e : GoodIn wsX6_isWord wsJ0_charAt_5068e := goodIn_r _ [19, 9, 20, 21, 22, 7, 23, 14, 15, 24, 25, 26, 27, 28, 29, 30, 31, 32, 33, 34, 35, 36, 37, 38, 39, 40, 41, 42, 43, 44, 45, 46, 47, 48, 49, 50, 51, 52] (by decide +kernel) (by decide +kernel)
set_option maxRecDepth 20000 in
theorem gX6_isWord_J0_charAt_5068e : GoodIn wsX6_isWord (wsV RX6 68 RJ0 yJ0_charAt_5068e wsJ0_charAt_5068e) := goodIn_app (goodIn_of _ (by decide +kernel)) ggX6_isWord_J0_charAt_5068e
theorem dX6_isWord_0 : decode cX6_isWord 0 = .ok (.aload_n 0, 1) := by decide +kernel
theorem dX6_isWord_1 : decode cX6_isWord 1 = .ok (.getfield 40, 3) := by decide +kernel
theorem dX6_isWord_4 : decode cX6_isWord 4 = .ok (.aload_n 0, 1) := by decide +kernel
theorem dX6_isWord_5 : decode cX6_isWord 5 = .ok (.getfield 50, 3) := by decide +kernel
theorem dX6_isWord_8 : decode cX6_isWord 8 = .ok (.isub, 1) := by decide +kernel
theorem dX6_isWord_9 : decode cX6_isWord 9 = .ok (.aload_n 1, 1) := by decide +kernel
theorem dX6_isWord_10 : decode cX6_isWord 10 = .ok (.invokevirtual 63, 3) := by decide +kernel
theorem dX6_isWord_13 : decode cX6_isWord 13 = .ok (.if_icmp .eq 5, 3) := by decide +kernel
theorem dX6_isWord_16 : decode cX6_isWord 16 = .ok (.iconst 0, 1) := by decide +kernel
theorem dX6_isWord_17 : decode cX6_isWord 17 = .ok (.ireturn, 1) := by decide +kernel
theorem dX6_isWord_18 : decode cX6_isWord 18 = .ok (.iconst 0, 1) := by decide +kernel
theorem dX6_isWord_19 : decode cX6_isWord 19 = .ok (.istore_n 2, 1) := by decide +kernel
theorem dX6_isWord_20 : decode cX6_isWord 20 = .ok (.iload_n 2, 1) := by decide +kernel
theorem dX6_isWord_21 : decode cX6_isWord 21 = .ok (.aload_n 1, 1) := by decide +kernel
theorem dX6_isWord_22 : decode cX6_isWord 22 = .ok (.invokevirtual 63, 3) := by decide +kernel
theorem dX6_isWord_25 : decode cX6_isWord 25 = .ok (.if_icmp .ge 30, 3) := by decide +kernel
theorem dX6_isWord_28 : decode cX6_isWord 28 = .ok (.aload_n 0, 1) := by decide +kernel
theorem dX6_isWord_29 : decode cX6_isWord 29 = .ok (.getfield 9, 3) := by decide +kernel
theorem dX6_isWord_32 : decode cX6_isWord 32 = .ok (.aload_n 0, 1) := by decide +kernel
theorem dX6_isWord_33 : decode cX6_isWord 33 = .ok (.getfield 50, 3) := by decide +kernel
theorem dX6_isWord_36 : decode cX6_isWord 36 = .ok (.iload_n 2, 1) := by decide +kernel
theorem dX6_isWord_37 : decode cX6_isWord 37 = .ok (.iadd, 1) := by decide +kernel
theorem dX6_isWord_38 : decode cX6_isWord 38 = .ok (.iaload, 1) := by decide +kernel
theorem dX6_isWord_39 : decode cX6_isWord 39 = .ok (.aload_n 1, 1) := by decide +kernel
theorem dX6_isWord_40 : decode cX6_isWord 40 = .ok (.iload_n 2, 1) := by decide +kernel
theorem dX6_isWord_41 : decode cX6_isWord 41 = .ok (.invokevirtual 68, 3) := by decide +kernel
theorem dX6_isWord_44 : decode cX6_isWord 44 = .ok (.if_icmp .eq 5, 3) := by decide +kernel
theorem dX6_isWord_47 : decode cX6_isWord 47 = .ok (.iconst 0, 1) := by decide +kernel
theorem dX6_isWord_48 : decode cX6_isWord 48 = .ok (.ireturn, 1) := by decide +kernel
theorem dX6_isWord_49 : decode cX6_isWord 49 = .ok (.iinc 2 1, 3) := by decide +kernel
theorem dX6_isWord_52 : decode cX6_isWord 52 = .ok (.goto (-32), 3) := by decide +kernel
theorem dX6_isWord_55 : decode cX6_isWord 55 = .ok (.iconst 1, 1) := by decide +kernel
theorem dX6_isWord_56 : decode cX6_isWord 56 = .ok (.ireturn, 1) := by decide +kernel
set_option maxRecDepth 20000 in
theorem ggX6_takeClause_X6_isWord : GoodIn wsX6_takeClause wsX6_isWord := goodIn_r _ [8, 9, 10, 11, 12, 13, 14, 15, 16, 17, 18, 19, 20, 21, 22, 23, 24, 25, 26, 27, 28, 29, 30, 31, 32, 33, 34, 35, 36, 37, 38, 39, 40, 41, 42, 43, 44, 45, 46, 47, 48, 49, 50, 51, 52, 53, 54, 55, 56, 57, 58, 59, 60, 147, 148, 149, 150, 151, 152, 153] (by decide +kernel) (by decide +kernel)
set_option maxRecDepth 20000 in
theorem gX6_takeClause_X6_isWord : GoodIn wsX6_takeClause (wsV RX6 74 RX6 yX6_isWord wsX6_isWord) := goodIn_app (goodIn_of _ (by decide +kernel)) ggX6_takeClause_X6_isWord
set_option maxRecDepth 20000 in
theorem ggX6_takeClause_X3_setEmpty : GoodIn wsX6_takeClause wsX3_setEmpty := goodIn_r _ [65, 66, 67, 68, 69, 158, 159, 160, 161, 162, 163, 164, 165] (by decide +kernel) (by decide +kernel)
set_option maxRecDepth 20000 in
theorem gX6_takeClause_X3_setEmpty : GoodIn wsX6_takeClause (wsV RX6 81 RX3 yX3_setEmpty wsX3_setEmpty) := goodIn_app (goodIn_of _ (by decide +kernel)) ggX6_takeClause_X3_setEmpty
set_option maxRecDepth 20000 in
theorem ggX6_takeClause_X6_step : GoodIn wsX6_takeClause wsX6_step := goodIn_r _ [73, 9, 10, 74, 11, 75, 76, 77, 7, 78, 79, 80, 81, 82, 147, 148, 149, 150, 151, 152, 153] (by decide +kernel) (by decide +kernel)
set_option maxRecDepth 20000 in
theorem gX6_takeClause_X6_step : GoodIn wsX6_takeClause (wsV RX6 43 RX6 yX6_step wsX6_step) := goodIn_app (goodIn_of _ (by decide +kernel)) ggX6_takeClause_X6_step
set_option maxRecDepth 20000 in
theorem ggX6_takeClause_X6_takeFact : GoodIn wsX6_takeClause wsX6_takeFact := goodIn_r _ [86, 1, 2, 70, 71, 72, 7, 73, 9, 10, 74, 11, 75, 76, 77, 78, 79, 80, 81, 82, 87, 88, 89, 90, 91, 92, 93, 94, 95, 96, 97, 98, 99, 100, 101, 102, 103, 104, 105, 106, 107, 108, 109, 110, 147, 148, 149, 150, 151, 152, 153, 154, 155, 156, 157] (by decide +kernel) (by decide +kernel)
set_option maxRecDepth 20000 in
theorem gX6_takeClause_X6_takeFact : GoodIn wsX6_takeClause (wsV RX6 86 RX6 yX6_takeFact wsX6_takeFact) := goodIn_app (goodIn_of _ (by decide +kernel)) ggX6_takeClause_X6_takeFact
set_option maxRecDepth 20000 in
theorem ggX6_takeClause_X6_takeMember : GoodIn wsX6_takeClause wsX6_takeMember := goodIn_r _ [114, 3, 115, 1, 70, 71, 72, 7, 73, 9, 10, 74, 11, 75, 76, 77, 78, 79, 80, 81, 82, 87, 88, 89, 90, 91, 92, 93, 94, 95, 96, 116, 105, 106, 107, 102, 108, 109, 110, 117, 118, 119, 64, 120, 66, 121, 147, 148, 149, 150, 151, 152, 153, 158, 159, 160, 161, 162, 163, 164, 165, 154, 155, 156, 157] (by decide +kernel) (by decide +kernel)
set_option maxRecDepth 20000 in
theorem gX6_takeClause_X6_takeMember : GoodIn wsX6_takeClause (wsV RX6 91 RX6 yX6_takeMember wsX6_takeMember) := goodIn_app (goodIn_of _ (by decide +kernel)) ggX6_takeClause_X6_takeMember
set_option maxRecDepth 20000 in
theorem ggX6_takeClause_X6_takeOn : GoodIn wsX6_takeClause wsX6_takeOn := goodIn_r _ [125, 3, 126, 115, 127, 70, 71, 72, 7, 73, 9, 10, 74, 11, 75, 76, 77, 78, 79, 80, 81, 82, 128, 129, 130, 131, 147, 148, 149, 150, 151, 152, 153, 158, 159, 160, 161, 162, 163, 164, 165] (by decide +kernel) (by decide +kernel)
set_option maxRecDepth 20000 in
theorem gX6_takeClause_X6_takeOn : GoodIn wsX6_takeClause (wsV RX6 96 RX6 yX6_takeOn wsX6_takeOn) := goodIn_app (goodIn_of _ (by decide +kernel)) ggX6_takeClause_X6_takeOn
set_option maxRecDepth 20000 in
theorem ggX6_takeClause_X6_takeLeech : GoodIn wsX6_takeClause wsX6_takeLeech := goodIn_r _ [135, 3, 126, 136, 137, 138, 7, 139, 4, 5, 6, 8, 9, 10, 11, 12, 13, 14, 15, 16, 17, 18, 19, 20, 21, 22, 23, 24, 25, 26, 27, 28, 29, 30, 31, 32, 33, 34, 35, 36, 37, 38, 39, 40, 41, 42, 43, 44, 45, 46, 47, 48, 49, 50, 51, 52, 53, 54, 55, 56, 57, 58, 59, 60, 140, 141, 142, 64, 143, 67, 144, 145, 146, 70, 71, 72, 73, 74, 75, 76, 77, 78, 79, 80, 81, 82, 147, 148, 149, 150, 151, 152, 153, 158, 159, 160, 161, 162, 163, 164, 165] (by decide +kernel) (by decide +kernel)
set_option maxRecDepth 20000 in
theorem gX6_takeClause_X6_takeLeech : GoodIn wsX6_takeClause (wsV RX6 99 RX6 yX6_takeLeech wsX6_takeLeech) := goodIn_app (goodIn_of _ (by decide +kernel)) ggX6_takeClause_X6_takeLeech
theorem dX6_takeClause_0 : decode cX6_takeClause 0 = .ok (.aload_n 0, 1) := by decide +kernel
theorem dX6_takeClause_1 : decode cX6_takeClause 1 = .ok (.ldc 72, 2) := by decide +kernel
theorem dX6_takeClause_3 : decode cX6_takeClause 3 = .ok (.invokevirtual 74, 3) := by decide +kernel
theorem dX6_takeClause_6 : decode cX6_takeClause 6 = .ok (.ifCond .eq 24, 3) := by decide +kernel
theorem dX6_takeClause_9 : decode cX6_takeClause 9 = .ok (.aload_n 0, 1) := by decide +kernel
theorem dX6_takeClause_10 : decode cX6_takeClause 10 = .ok (.getfield 18, 3) := by decide +kernel
theorem dX6_takeClause_13 : decode cX6_takeClause 13 = .ok (.iconst 0, 1) := by decide +kernel
theorem dX6_takeClause_14 : decode cX6_takeClause 14 = .ok (.putfield 78, 3) := by decide +kernel
theorem dX6_takeClause_17 : decode cX6_takeClause 17 = .ok (.aload_n 0, 1) := by decide +kernel
theorem dX6_takeClause_18 : decode cX6_takeClause 18 = .ok (.getfield 25, 3) := by decide +kernel
theorem dX6_takeClause_21 : decode cX6_takeClause 21 = .ok (.invokevirtual 81, 3) := by decide +kernel
theorem dX6_takeClause_24 : decode cX6_takeClause 24 = .ok (.aload_n 0, 1) := by decide +kernel
theorem dX6_takeClause_25 : decode cX6_takeClause 25 = .ok (.invokevirtual 43, 3) := by decide +kernel
theorem dX6_takeClause_28 : decode cX6_takeClause 28 = .ok (.iconst 1, 1) := by decide +kernel
theorem dX6_takeClause_29 : decode cX6_takeClause 29 = .ok (.ireturn, 1) := by decide +kernel
theorem dX6_takeClause_30 : decode cX6_takeClause 30 = .ok (.aload_n 0, 1) := by decide +kernel
theorem dX6_takeClause_31 : decode cX6_takeClause 31 = .ok (.ldc 84, 2) := by decide +kernel
theorem dX6_takeClause_33 : decode cX6_takeClause 33 = .ok (.invokevirtual 74, 3) := by decide +kernel
theorem dX6_takeClause_36 : decode cX6_takeClause 36 = .ok (.ifCond .eq 8, 3) := by decide +kernel
theorem dX6_takeClause_39 : decode cX6_takeClause 39 = .ok (.aload_n 0, 1) := by decide +kernel
theorem dX6_takeClause_40 : decode cX6_takeClause 40 = .ok (.invokevirtual 86, 3) := by decide +kernel
theorem dX6_takeClause_43 : decode cX6_takeClause 43 = .ok (.ireturn, 1) := by decide +kernel
theorem dX6_takeClause_44 : decode cX6_takeClause 44 = .ok (.aload_n 0, 1) := by decide +kernel
theorem dX6_takeClause_45 : decode cX6_takeClause 45 = .ok (.ldc 89, 2) := by decide +kernel
theorem dX6_takeClause_47 : decode cX6_takeClause 47 = .ok (.invokevirtual 74, 3) := by decide +kernel
theorem dX6_takeClause_50 : decode cX6_takeClause 50 = .ok (.ifCond .eq 8, 3) := by decide +kernel
theorem dX6_takeClause_53 : decode cX6_takeClause 53 = .ok (.aload_n 0, 1) := by decide +kernel
theorem dX6_takeClause_54 : decode cX6_takeClause 54 = .ok (.invokevirtual 91, 3) := by decide +kernel
theorem dX6_takeClause_57 : decode cX6_takeClause 57 = .ok (.ireturn, 1) := by decide +kernel
theorem dX6_takeClause_58 : decode cX6_takeClause 58 = .ok (.aload_n 0, 1) := by decide +kernel
theorem dX6_takeClause_59 : decode cX6_takeClause 59 = .ok (.ldc 94, 2) := by decide +kernel
theorem dX6_takeClause_61 : decode cX6_takeClause 61 = .ok (.invokevirtual 74, 3) := by decide +kernel
theorem dX6_takeClause_64 : decode cX6_takeClause 64 = .ok (.ifCond .eq 8, 3) := by decide +kernel
theorem dX6_takeClause_67 : decode cX6_takeClause 67 = .ok (.aload_n 0, 1) := by decide +kernel
theorem dX6_takeClause_68 : decode cX6_takeClause 68 = .ok (.invokevirtual 96, 3) := by decide +kernel
theorem dX6_takeClause_71 : decode cX6_takeClause 71 = .ok (.ireturn, 1) := by decide +kernel
theorem dX6_takeClause_72 : decode cX6_takeClause 72 = .ok (.aload_n 0, 1) := by decide +kernel
theorem dX6_takeClause_73 : decode cX6_takeClause 73 = .ok (.invokevirtual 99, 3) := by decide +kernel
theorem dX6_takeClause_76 : decode cX6_takeClause 76 = .ok (.ireturn, 1) := by decide +kernel
set_option maxRecDepth 20000 in
theorem ggX6_takeFact_X6_step : GoodIn wsX6_takeFact wsX6_step := goodIn_r _ [7, 8, 9, 10, 11, 12, 13, 14, 6, 15, 16, 17, 18, 19, 44, 45, 46, 47, 48, 49, 50] (by decide +kernel) (by decide +kernel)
set_option maxRecDepth 20000 in
theorem gX6_takeFact_X6_step : GoodIn wsX6_takeFact (wsV RX6 43 RX6 yX6_step wsX6_step) := goodIn_app (goodIn_of _ (by decide +kernel)) ggX6_takeFact_X6_step
set_option maxRecDepth 20000 in
theorem ggX6_takeFact_X6_stepOverSet : GoodIn wsX6_takeFact wsX6_stepOverSet := goodIn_r _ [23, 9, 8, 11, 1, 12, 13, 14, 6, 15, 10, 24, 25, 26, 27, 28, 29, 3, 4, 5, 7, 16, 17, 18, 19, 44, 45, 46, 47, 48, 49, 50, 51, 52, 53, 54] (by decide +kernel) (by decide +kernel)
set_option maxRecDepth 20000 in
theorem gX6_takeFact_X6_stepOverSet : GoodIn wsX6_takeFact (wsV RX6 102 RX6 yX6_stepOverSet wsX6_stepOverSet) := goodIn_app (goodIn_of _ (by decide +kernel)) ggX6_takeFact_X6_stepOverSet
set_option maxRecDepth 20000 in
theorem ggX6_takeFact_X0_add : GoodIn wsX6_takeFact wsX0_add := goodIn_r _ [33, 29, 34, 35, 36, 37, 38, 39, 27, 40, 41, 42, 43, 51, 52, 53, 54] (by decide +kernel) (by decide +kernel)
set_option maxRecDepth 20000 in
theorem gX6_takeFact_X0_add : GoodIn wsX6_takeFact (wsV RX6 105 RX0 yX0_add wsX0_add) := goodIn_app (goodIn_of _ (by decide +kernel)) ggX6_takeFact_X0_add
theorem dX6_takeFact_0 : decode cX6_takeFact 0 = .ok (.aload_n 0, 1) := by decide +kernel
theorem dX6_takeFact_1 : decode cX6_takeFact 1 = .ok (.getfield 18, 3) := by decide +kernel
theorem dX6_takeFact_4 : decode cX6_takeFact 4 = .ok (.getfield 78, 3) := by decide +kernel
theorem dX6_takeFact_7 : decode cX6_takeFact 7 = .ok (.bipush 12, 2) := by decide +kernel
theorem dX6_takeFact_9 : decode cX6_takeFact 9 = .ok (.if_icmp .ne 5, 3) := by decide +kernel
theorem dX6_takeFact_12 : decode cX6_takeFact 12 = .ok (.iconst 0, 1) := by decide +kernel
theorem dX6_takeFact_13 : decode cX6_takeFact 13 = .ok (.ireturn, 1) := by decide +kernel
theorem dX6_takeFact_14 : decode cX6_takeFact 14 = .ok (.aload_n 0, 1) := by decide +kernel
theorem dX6_takeFact_15 : decode cX6_takeFact 15 = .ok (.invokevirtual 43, 3) := by decide +kernel
theorem dX6_takeFact_18 : decode cX6_takeFact 18 = .ok (.aload_n 0, 1) := by decide +kernel
theorem dX6_takeFact_19 : decode cX6_takeFact 19 = .ok (.invokevirtual 102, 3) := by decide +kernel
theorem dX6_takeFact_22 : decode cX6_takeFact 22 = .ok (.istore_n 1, 1) := by decide +kernel
theorem dX6_takeFact_23 : decode cX6_takeFact 23 = .ok (.iload_n 1, 1) := by decide +kernel
theorem dX6_takeFact_24 : decode cX6_takeFact 24 = .ok (.iconst (-1), 1) := by decide +kernel
theorem dX6_takeFact_25 : decode cX6_takeFact 25 = .ok (.if_icmp .ne 5, 3) := by decide +kernel
theorem dX6_takeFact_28 : decode cX6_takeFact 28 = .ok (.iconst 0, 1) := by decide +kernel
