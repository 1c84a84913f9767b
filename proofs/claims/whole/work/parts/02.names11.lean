set_option maxRecDepth 20000 in
theorem gX8_club_X8_reads : GoodIn wsX8_club (wsV RX8 176 RX8 yX8_reads wsX8_reads) := goodIn_app (goodIn_of _ (by decide +kernel)) ggX8_club_X8_reads
set_option maxRecDepth 20000 in
theorem ggX8_club_X8_copyClub : GoodIn wsX8_club wsX8_copyClub := goodIn_r _ [95, 13, 96, 97, 98, 99, 100, 101, 102, 103, 104, 105, 106, 107, 108, 109, 110, 111, 112, 113, 114, 115, 116, 117, 118, 119, 120, 121, 122, 123, 124, 125, 126, 127, 128, 129, 130, 131, 132] (by decide +kernel) (by decide +kernel)
set_option maxRecDepth 20000 in
theorem gX8_club_X8_copyClub : GoodIn wsX8_club (wsV RX8 180 RX8 yX8_copyClub wsX8_copyClub) := goodIn_app (goodIn_of _ (by decide +kernel)) ggX8_club_X8_copyClub
theorem dX8_club_0 : decode cX8_club 0 = .ok (.aload_n 0, 1) := by decide +kernel
theorem dX8_club_1 : decode cX8_club 1 = .ok (.iconst 0, 1) := by decide +kernel
theorem dX8_club_2 : decode cX8_club 2 = .ok (.invokevirtual 176, 3) := by decide +kernel
theorem dX8_club_5 : decode cX8_club 5 = .ok (.ifCond .ne 6, 3) := by decide +kernel
theorem dX8_club_8 : decode cX8_club 8 = .ok (.bipush (-4), 2) := by decide +kernel
theorem dX8_club_10 : decode cX8_club 10 = .ok (.ireturn, 1) := by decide +kernel
theorem dX8_club_11 : decode cX8_club 11 = .ok (.aload_n 0, 1) := by decide +kernel
theorem dX8_club_12 : decode cX8_club 12 = .ok (.iconst 1, 1) := by decide +kernel
theorem dX8_club_13 : decode cX8_club 13 = .ok (.invokevirtual 176, 3) := by decide +kernel
theorem dX8_club_16 : decode cX8_club 16 = .ok (.pop, 1) := by decide +kernel
theorem dX8_club_17 : decode cX8_club 17 = .ok (.aload_n 0, 1) := by decide +kernel
theorem dX8_club_18 : decode cX8_club 18 = .ok (.iconst 0, 1) := by decide +kernel
theorem dX8_club_19 : decode cX8_club 19 = .ok (.putfield 90, 3) := by decide +kernel
theorem dX8_club_22 : decode cX8_club 22 = .ok (.aload_n 0, 1) := by decide +kernel
theorem dX8_club_23 : decode cX8_club 23 = .ok (.bipush 48, 2) := by decide +kernel
theorem dX8_club_25 : decode cX8_club 25 = .ok (.iconst 0, 1) := by decide +kernel
theorem dX8_club_26 : decode cX8_club 26 = .ok (.invokevirtual 180, 3) := by decide +kernel
theorem dX8_club_29 : decode cX8_club 29 = .ok (.aload_n 0, 1) := by decide +kernel
theorem dX8_club_30 : decode cX8_club 30 = .ok (.iconst 0, 1) := by decide +kernel
theorem dX8_club_31 : decode cX8_club 31 = .ok (.putfield 184, 3) := by decide +kernel
theorem dX8_club_34 : decode cX8_club 34 = .ok (.aload_n 0, 1) := by decide +kernel
theorem dX8_club_35 : decode cX8_club 35 = .ok (.getfield 13, 3) := by decide +kernel
theorem dX8_club_38 : decode cX8_club 38 = .ok (.iconst 0, 1) := by decide +kernel
theorem dX8_club_39 : decode cX8_club 39 = .ok (.iconst 0, 1) := by decide +kernel
theorem dX8_club_40 : decode cX8_club 40 = .ok (.bastore, 1) := by decide +kernel
theorem dX8_club_41 : decode cX8_club 41 = .ok (.aload_n 0, 1) := by decide +kernel
theorem dX8_club_42 : decode cX8_club 42 = .ok (.getfield 13, 3) := by decide +kernel
theorem dX8_club_45 : decode cX8_club 45 = .ok (.iconst 1, 1) := by decide +kernel
theorem dX8_club_46 : decode cX8_club 46 = .ok (.iconst 0, 1) := by decide +kernel
theorem dX8_club_47 : decode cX8_club 47 = .ok (.bastore, 1) := by decide +kernel
theorem dX8_club_48 : decode cX8_club 48 = .ok (.aload_n 0, 1) := by decide +kernel
theorem dX8_club_49 : decode cX8_club 49 = .ok (.iconst 0, 1) := by decide +kernel
theorem dX8_club_50 : decode cX8_club 50 = .ok (.putfield 187, 3) := by decide +kernel
theorem dX8_club_53 : decode cX8_club 53 = .ok (.aload_n 0, 1) := by decide +kernel
theorem dX8_club_54 : decode cX8_club 54 = .ok (.getfield 170, 3) := by decide +kernel
theorem dX8_club_57 : decode cX8_club 57 = .ok (.ireturn, 1) := by decide +kernel
theorem dX8_takes_0 : decode cX8_takes 0 = .ok (.iload_n 0, 1) := by decide +kernel
theorem dX8_takes_1 : decode cX8_takes 1 = .ok (.iconst 1, 1) := by decide +kernel
theorem dX8_takes_2 : decode cX8_takes 2 = .ok (.if_icmp .ne 7, 3) := by decide +kernel
theorem dX8_takes_5 : decode cX8_takes 5 = .ok (.iconst 2, 1) := by decide +kernel
theorem dX8_takes_6 : decode cX8_takes 6 = .ok (.goto 13, 3) := by decide +kernel
theorem dX8_takes_9 : decode cX8_takes 9 = .ok (.iload_n 0, 1) := by decide +kernel
theorem dX8_takes_10 : decode cX8_takes 10 = .ok (.iconst 2, 1) := by decide +kernel
theorem dX8_takes_11 : decode cX8_takes 11 = .ok (.if_icmp .ne 7, 3) := by decide +kernel
theorem dX8_takes_14 : decode cX8_takes 14 = .ok (.iconst 3, 1) := by decide +kernel
theorem dX8_takes_15 : decode cX8_takes 15 = .ok (.goto 4, 3) := by decide +kernel
theorem dX8_takes_18 : decode cX8_takes 18 = .ok (.iconst 1, 1) := by decide +kernel
theorem dX8_takes_19 : decode cX8_takes 19 = .ok (.ireturn, 1) := by decide +kernel
theorem dX8_room_0 : decode cX8_room 0 = .ok (.iload_n 0, 1) := by decide +kernel
theorem dX8_room_1 : decode cX8_room 1 = .ok (.ifCond .ne 7, 3) := by decide +kernel
theorem dX8_room_4 : decode cX8_room 4 = .ok (.iconst 3, 1) := by decide +kernel
theorem dX8_room_5 : decode cX8_room 5 = .ok (.goto 34, 3) := by decide +kernel
theorem dX8_room_8 : decode cX8_room 8 = .ok (.iload_n 0, 1) := by decide +kernel
theorem dX8_room_9 : decode cX8_room 9 = .ok (.iconst 1, 1) := by decide +kernel
theorem dX8_room_10 : decode cX8_room 10 = .ok (.if_icmp .ne 8, 3) := by decide +kernel
theorem dX8_room_13 : decode cX8_room 13 = .ok (.bipush 6, 2) := by decide +kernel
theorem dX8_room_15 : decode cX8_room 15 = .ok (.goto 24, 3) := by decide +kernel
theorem dX8_room_18 : decode cX8_room 18 = .ok (.iload_n 0, 1) := by decide +kernel
theorem dX8_room_19 : decode cX8_room 19 = .ok (.iconst 2, 1) := by decide +kernel
theorem dX8_room_20 : decode cX8_room 20 = .ok (.if_icmp .ne 8, 3) := by decide +kernel
theorem dX8_room_23 : decode cX8_room 23 = .ok (.bipush 9, 2) := by decide +kernel
theorem dX8_room_25 : decode cX8_room 25 = .ok (.goto 14, 3) := by decide +kernel
theorem dX8_room_28 : decode cX8_room 28 = .ok (.iload_n 0, 1) := by decide +kernel
theorem dX8_room_29 : decode cX8_room 29 = .ok (.iconst 3, 1) := by decide +kernel
theorem dX8_room_30 : decode cX8_room 30 = .ok (.if_icmp .ne 7, 3) := by decide +kernel
theorem dX8_room_33 : decode cX8_room 33 = .ok (.iconst 2, 1) := by decide +kernel
theorem dX8_room_34 : decode cX8_room 34 = .ok (.goto 5, 3) := by decide +kernel
theorem dX8_room_37 : decode cX8_room 37 = .ok (.bipush 99, 2) := by decide +kernel
theorem dX8_room_39 : decode cX8_room 39 = .ok (.ireturn, 1) := by decide +kernel
set_option maxRecDepth 20000 in
theorem ggX8_isFact_X8_in : GoodIn wsX8_isFact wsX8_in := goodIn_r _ [5] (by decide +kernel) (by decide +kernel)
set_option maxRecDepth 20000 in
theorem gX8_isFact_X8_in : GoodIn wsX8_isFact (va_wsS RX8 86 yX8_in wsX8_in) := goodIn_app (goodIn_of _ (by decide +kernel)) ggX8_isFact_X8_in
theorem dX8_isFact_0 : decode cX8_isFact 0 = .ok (.iload_n 1, 1) := by decide +kernel
theorem dX8_isFact_1 : decode cX8_isFact 1 = .ok (.i2l, 1) := by decide +kernel
theorem dX8_isFact_2 : decode cX8_isFact 2 = .ok (.lconst 0, 1) := by decide +kernel
theorem dX8_isFact_3 : decode cX8_isFact 3 = .ok (.aload_n 0, 1) := by decide +kernel
theorem dX8_isFact_4 : decode cX8_isFact 4 = .ok (.getfield 7, 3) := by decide +kernel
theorem dX8_isFact_7 : decode cX8_isFact 7 = .ok (.bipush 23, 2) := by decide +kernel
theorem dX8_isFact_9 : decode cX8_isFact 9 = .ok (.iaload, 1) := by decide +kernel
theorem dX8_isFact_10 : decode cX8_isFact 10 = .ok (.iconst 1, 1) := by decide +kernel
theorem dX8_isFact_11 : decode cX8_isFact 11 = .ok (.isub, 1) := by decide +kernel
theorem dX8_isFact_12 : decode cX8_isFact 12 = .ok (.i2l, 1) := by decide +kernel
theorem dX8_isFact_13 : decode cX8_isFact 13 = .ok (.invokestatic 86, 3) := by decide +kernel
theorem dX8_isFact_16 : decode cX8_isFact 16 = .ok (.ireturn, 1) := by decide +kernel
set_option maxRecDepth 20000 in
theorem ggX8_isMember_X8_in : GoodIn wsX8_isMember wsX8_in := goodIn_r _ [5] (by decide +kernel) (by decide +kernel)
set_option maxRecDepth 20000 in
theorem gX8_isMember_X8_in : GoodIn wsX8_isMember (va_wsS RX8 86 yX8_in wsX8_in) := goodIn_app (goodIn_of _ (by decide +kernel)) ggX8_isMember_X8_in
theorem dX8_isMember_0 : decode cX8_isMember 0 = .ok (.iload_n 1, 1) := by decide +kernel
theorem dX8_isMember_1 : decode cX8_isMember 1 = .ok (.i2l, 1) := by decide +kernel
theorem dX8_isMember_2 : decode cX8_isMember 2 = .ok (.lconst 0, 1) := by decide +kernel
theorem dX8_isMember_3 : decode cX8_isMember 3 = .ok (.aload_n 0, 1) := by decide +kernel
theorem dX8_isMember_4 : decode cX8_isMember 4 = .ok (.getfield 7, 3) := by decide +kernel
theorem dX8_isMember_7 : decode cX8_isMember 7 = .ok (.bipush 16, 2) := by decide +kernel
theorem dX8_isMember_9 : decode cX8_isMember 9 = .ok (.iaload, 1) := by decide +kernel
theorem dX8_isMember_10 : decode cX8_isMember 10 = .ok (.iconst 1, 1) := by decide +kernel
theorem dX8_isMember_11 : decode cX8_isMember 11 = .ok (.isub, 1) := by decide +kernel
theorem dX8_isMember_12 : decode cX8_isMember 12 = .ok (.i2l, 1) := by decide +kernel
theorem dX8_isMember_13 : decode cX8_isMember 13 = .ok (.invokestatic 86, 3) := by decide +kernel
theorem dX8_isMember_16 : decode cX8_isMember 16 = .ok (.ireturn, 1) := by decide +kernel
set_option maxRecDepth 20000 in
theorem ggX8_isLeech_X8_in : GoodIn wsX8_isLeech wsX8_in := goodIn_r _ [5] (by decide +kernel) (by decide +kernel)
set_option maxRecDepth 20000 in
theorem gX8_isLeech_X8_in : GoodIn wsX8_isLeech (va_wsS RX8 86 yX8_in wsX8_in) := goodIn_app (goodIn_of _ (by decide +kernel)) ggX8_isLeech_X8_in
theorem dX8_isLeech_0 : decode cX8_isLeech 0 = .ok (.iload_n 1, 1) := by decide +kernel
theorem dX8_isLeech_1 : decode cX8_isLeech 1 = .ok (.i2l, 1) := by decide +kernel
theorem dX8_isLeech_2 : decode cX8_isLeech 2 = .ok (.lconst 0, 1) := by decide +kernel
theorem dX8_isLeech_3 : decode cX8_isLeech 3 = .ok (.aload_n 0, 1) := by decide +kernel
theorem dX8_isLeech_4 : decode cX8_isLeech 4 = .ok (.getfield 7, 3) := by decide +kernel
theorem dX8_isLeech_7 : decode cX8_isLeech 7 = .ok (.bipush 17, 2) := by decide +kernel
theorem dX8_isLeech_9 : decode cX8_isLeech 9 = .ok (.iaload, 1) := by decide +kernel
theorem dX8_isLeech_10 : decode cX8_isLeech 10 = .ok (.iconst 1, 1) := by decide +kernel
theorem dX8_isLeech_11 : decode cX8_isLeech 11 = .ok (.isub, 1) := by decide +kernel
theorem dX8_isLeech_12 : decode cX8_isLeech 12 = .ok (.i2l, 1) := by decide +kernel
theorem dX8_isLeech_13 : decode cX8_isLeech 13 = .ok (.invokestatic 86, 3) := by decide +kernel
theorem dX8_isLeech_16 : decode cX8_isLeech 16 = .ok (.ireturn, 1) := by decide +kernel
set_option maxRecDepth 20000 in
theorem ggX8_areFacts_X8_in : GoodIn wsX8_areFacts wsX8_in := goodIn_r _ [5] (by decide +kernel) (by decide +kernel)
set_option maxRecDepth 20000 in
theorem gX8_areFacts_X8_in : GoodIn wsX8_areFacts (va_wsS RX8 86 yX8_in wsX8_in) := goodIn_app (goodIn_of _ (by decide +kernel)) ggX8_areFacts_X8_in
theorem dX8_areFacts_0 : decode cX8_areFacts 0 = .ok (.iload_n 1, 1) := by decide +kernel
theorem dX8_areFacts_1 : decode cX8_areFacts 1 = .ok (.i2l, 1) := by decide +kernel
theorem dX8_areFacts_2 : decode cX8_areFacts 2 = .ok (.lconst 0, 1) := by decide +kernel
theorem dX8_areFacts_3 : decode cX8_areFacts 3 = .ok (.iconst 1, 1) := by decide +kernel
theorem dX8_areFacts_4 : decode cX8_areFacts 4 = .ok (.aload_n 0, 1) := by decide +kernel
theorem dX8_areFacts_5 : decode cX8_areFacts 5 = .ok (.getfield 7, 3) := by decide +kernel
theorem dX8_areFacts_8 : decode cX8_areFacts 8 = .ok (.bipush 23, 2) := by decide +kernel
theorem dX8_areFacts_10 : decode cX8_areFacts 10 = .ok (.iaload, 1) := by decide +kernel
theorem dX8_areFacts_11 : decode cX8_areFacts 11 = .ok (.ishl, 1) := by decide +kernel
theorem dX8_areFacts_12 : decode cX8_areFacts 12 = .ok (.iconst 1, 1) := by decide +kernel
theorem dX8_areFacts_13 : decode cX8_areFacts 13 = .ok (.isub, 1) := by decide +kernel
theorem dX8_areFacts_14 : decode cX8_areFacts 14 = .ok (.i2l, 1) := by decide +kernel
theorem dX8_areFacts_15 : decode cX8_areFacts 15 = .ok (.invokestatic 86, 3) := by decide +kernel
theorem dX8_areFacts_18 : decode cX8_areFacts 18 = .ok (.ireturn, 1) := by decide +kernel
set_option maxRecDepth 20000 in
theorem ggX8_fact_X8_isFact : GoodIn wsX8_fact wsX8_isFact := goodIn_r _ [6, 1, 7, 8, 5, 9, 13, 14, 15, 16, 17, 18, 19, 20, 21, 22, 23, 24, 25, 26, 27, 28, 29, 30, 31, 32, 33, 34, 35, 36, 37, 38, 39, 40, 41, 42, 43, 44, 45, 46, 47, 48, 49] (by decide +kernel) (by decide +kernel)
set_option maxRecDepth 20000 in
theorem gX8_fact_X8_isFact : GoodIn wsX8_fact (wsV RX8 190 RX8 yX8_isFact wsX8_isFact) := goodIn_app (goodIn_of _ (by decide +kernel)) ggX8_fact_X8_isFact
set_option maxRecDepth 20000 in
theorem ggX8_fact_X8_has : GoodIn wsX8_fact wsX8_has := goodIn_r _ [12] (by decide +kernel) (by decide +kernel)
set_option maxRecDepth 20000 in
theorem gX8_fact_X8_has : GoodIn wsX8_fact (va_wsS RX8 121 yX8_has wsX8_has) := goodIn_app (goodIn_of _ (by decide +kernel)) ggX8_fact_X8_has
theorem dX8_fact_0 : decode cX8_fact 0 = .ok (.aload_n 0, 1) := by decide +kernel
theorem dX8_fact_1 : decode cX8_fact 1 = .ok (.iload_n 1, 1) := by decide +kernel
theorem dX8_fact_2 : decode cX8_fact 2 = .ok (.invokevirtual 190, 3) := by decide +kernel
theorem dX8_fact_5 : decode cX8_fact 5 = .ok (.ifCond .ne 6, 3) := by decide +kernel
theorem dX8_fact_8 : decode cX8_fact 8 = .ok (.bipush (-2), 2) := by decide +kernel
theorem dX8_fact_10 : decode cX8_fact 10 = .ok (.ireturn, 1) := by decide +kernel
theorem dX8_fact_11 : decode cX8_fact 11 = .ok (.iconst 0, 1) := by decide +kernel
theorem dX8_fact_12 : decode cX8_fact 12 = .ok (.istore_n 3, 1) := by decide +kernel
theorem dX8_fact_13 : decode cX8_fact 13 = .ok (.iload_n 2, 1) := by decide +kernel
theorem dX8_fact_14 : decode cX8_fact 14 = .ok (.tableswitch 151 0 3 #[30, 40, 50, 100], 30) := by decide +kernel
theorem dX8_fact_44 : decode cX8_fact 44 = .ok (.aload_n 0, 1) := by decide +kernel
theorem dX8_fact_45 : decode cX8_fact 45 = .ok (.getfield 7, 3) := by decide +kernel
theorem dX8_fact_48 : decode cX8_fact 48 = .ok (.bipush 24, 2) := by decide +kernel
theorem dX8_fact_50 : decode cX8_fact 50 = .ok (.iload_n 1, 1) := by decide +kernel
theorem dX8_fact_51 : decode cX8_fact 51 = .ok (.iadd, 1) := by decide +kernel
theorem dX8_fact_52 : decode cX8_fact 52 = .ok (.iaload, 1) := by decide +kernel
theorem dX8_fact_53 : decode cX8_fact 53 = .ok (.ireturn, 1) := by decide +kernel
theorem dX8_fact_54 : decode cX8_fact 54 = .ok (.aload_n 0, 1) := by decide +kernel
theorem dX8_fact_55 : decode cX8_fact 55 = .ok (.getfield 7, 3) := by decide +kernel
theorem dX8_fact_58 : decode cX8_fact 58 = .ok (.bipush 36, 2) := by decide +kernel
theorem dX8_fact_60 : decode cX8_fact 60 = .ok (.iload_n 1, 1) := by decide +kernel
theorem dX8_fact_61 : decode cX8_fact 61 = .ok (.iadd, 1) := by decide +kernel
theorem dX8_fact_62 : decode cX8_fact 62 = .ok (.iaload, 1) := by decide +kernel
theorem dX8_fact_63 : decode cX8_fact 63 = .ok (.ireturn, 1) := by decide +kernel
theorem dX8_fact_64 : decode cX8_fact 64 = .ok (.iconst 0, 1) := by decide +kernel
theorem dX8_fact_65 : decode cX8_fact 65 = .ok (.istore 4, 2) := by decide +kernel
theorem dX8_fact_67 : decode cX8_fact 67 = .ok (.iload 4, 2) := by decide +kernel
theorem dX8_fact_69 : decode cX8_fact 69 = .ok (.aload_n 0, 1) := by decide +kernel
theorem dX8_fact_70 : decode cX8_fact 70 = .ok (.getfield 7, 3) := by decide +kernel
theorem dX8_fact_73 : decode cX8_fact 73 = .ok (.bipush 16, 2) := by decide +kernel
theorem dX8_fact_75 : decode cX8_fact 75 = .ok (.iaload, 1) := by decide +kernel
theorem dX8_fact_76 : decode cX8_fact 76 = .ok (.if_icmp .ge 36, 3) := by decide +kernel
theorem dX8_fact_79 : decode cX8_fact 79 = .ok (.iload_n 3, 1) := by decide +kernel
theorem dX8_fact_80 : decode cX8_fact 80 = .ok (.aload_n 0, 1) := by decide +kernel
theorem dX8_fact_81 : decode cX8_fact 81 = .ok (.getfield 7, 3) := by decide +kernel
theorem dX8_fact_84 : decode cX8_fact 84 = .ok (.iconst 0, 1) := by decide +kernel
theorem dX8_fact_85 : decode cX8_fact 85 = .ok (.iload 4, 2) := by decide +kernel
theorem dX8_fact_87 : decode cX8_fact 87 = .ok (.iadd, 1) := by decide +kernel
theorem dX8_fact_88 : decode cX8_fact 88 = .ok (.iaload, 1) := by decide +kernel
theorem dX8_fact_89 : decode cX8_fact 89 = .ok (.iload_n 1, 1) := by decide +kernel
theorem dX8_fact_90 : decode cX8_fact 90 = .ok (.invokestatic 121, 3) := by decide +kernel
theorem dX8_fact_93 : decode cX8_fact 93 = .ok (.ifCond .eq 10, 3) := by decide +kernel
theorem dX8_fact_96 : decode cX8_fact 96 = .ok (.iconst 1, 1) := by decide +kernel
theorem dX8_fact_97 : decode cX8_fact 97 = .ok (.iload 4, 2) := by decide +kernel
theorem dX8_fact_99 : decode cX8_fact 99 = .ok (.ishl, 1) := by decide +kernel
theorem dX8_fact_100 : decode cX8_fact 100 = .ok (.goto 4, 3) := by decide +kernel
theorem dX8_fact_103 : decode cX8_fact 103 = .ok (.iconst 0, 1) := by decide +kernel
theorem dX8_fact_104 : decode cX8_fact 104 = .ok (.ior, 1) := by decide +kernel
theorem dX8_fact_105 : decode cX8_fact 105 = .ok (.istore_n 3, 1) := by decide +kernel
theorem dX8_fact_106 : decode cX8_fact 106 = .ok (.iinc 4 1, 3) := by decide +kernel
theorem dX8_fact_109 : decode cX8_fact 109 = .ok (.goto (-42), 3) := by decide +kernel
theorem dX8_fact_112 : decode cX8_fact 112 = .ok (.iload_n 3, 1) := by decide +kernel
theorem dX8_fact_113 : decode cX8_fact 113 = .ok (.ireturn, 1) := by decide +kernel
theorem dX8_fact_114 : decode cX8_fact 114 = .ok (.iconst 0, 1) := by decide +kernel
theorem dX8_fact_115 : decode cX8_fact 115 = .ok (.istore 4, 2) := by decide +kernel
theorem dX8_fact_117 : decode cX8_fact 117 = .ok (.iload 4, 2) := by decide +kernel
theorem dX8_fact_119 : decode cX8_fact 119 = .ok (.aload_n 0, 1) := by decide +kernel
theorem dX8_fact_120 : decode cX8_fact 120 = .ok (.getfield 7, 3) := by decide +kernel
theorem dX8_fact_123 : decode cX8_fact 123 = .ok (.bipush 17, 2) := by decide +kernel
theorem dX8_fact_125 : decode cX8_fact 125 = .ok (.iaload, 1) := by decide +kernel
theorem dX8_fact_126 : decode cX8_fact 126 = .ok (.if_icmp .ge 37, 3) := by decide +kernel
theorem dX8_fact_129 : decode cX8_fact 129 = .ok (.iload_n 3, 1) := by decide +kernel
theorem dX8_fact_130 : decode cX8_fact 130 = .ok (.aload_n 0, 1) := by decide +kernel
theorem dX8_fact_131 : decode cX8_fact 131 = .ok (.getfield 7, 3) := by decide +kernel
theorem dX8_fact_134 : decode cX8_fact 134 = .ok (.bipush 9, 2) := by decide +kernel
theorem dX8_fact_136 : decode cX8_fact 136 = .ok (.iload 4, 2) := by decide +kernel
theorem dX8_fact_138 : decode cX8_fact 138 = .ok (.iadd, 1) := by decide +kernel
theorem dX8_fact_139 : decode cX8_fact 139 = .ok (.iaload, 1) := by decide +kernel
theorem dX8_fact_140 : decode cX8_fact 140 = .ok (.iload_n 1, 1) := by decide +kernel
theorem dX8_fact_141 : decode cX8_fact 141 = .ok (.invokestatic 121, 3) := by decide +kernel
theorem dX8_fact_144 : decode cX8_fact 144 = .ok (.ifCond .eq 10, 3) := by decide +kernel
theorem dX8_fact_147 : decode cX8_fact 147 = .ok (.iconst 1, 1) := by decide +kernel
theorem dX8_fact_148 : decode cX8_fact 148 = .ok (.iload 4, 2) := by decide +kernel
theorem dX8_fact_150 : decode cX8_fact 150 = .ok (.ishl, 1) := by decide +kernel
theorem dX8_fact_151 : decode cX8_fact 151 = .ok (.goto 4, 3) := by decide +kernel
theorem dX8_fact_154 : decode cX8_fact 154 = .ok (.iconst 0, 1) := by decide +kernel
theorem dX8_fact_155 : decode cX8_fact 155 = .ok (.ior, 1) := by decide +kernel
theorem dX8_fact_156 : decode cX8_fact 156 = .ok (.istore_n 3, 1) := by decide +kernel
theorem dX8_fact_157 : decode cX8_fact 157 = .ok (.iinc 4 1, 3) := by decide +kernel
theorem dX8_fact_160 : decode cX8_fact 160 = .ok (.goto (-43), 3) := by decide +kernel
theorem dX8_fact_163 : decode cX8_fact 163 = .ok (.iload_n 3, 1) := by decide +kernel
theorem dX8_fact_164 : decode cX8_fact 164 = .ok (.ireturn, 1) := by decide +kernel
theorem dX8_fact_165 : decode cX8_fact 165 = .ok (.bipush (-3), 2) := by decide +kernel
theorem dX8_fact_167 : decode cX8_fact 167 = .ok (.ireturn, 1) := by decide +kernel
theorem dX8_partOf_0 : decode cX8_partOf 0 = .ok (.lload_n 0, 1) := by decide +kernel
theorem dX8_partOf_1 : decode cX8_partOf 1 = .ok (.lconst 0, 1) := by decide +kernel
theorem dX8_partOf_2 : decode cX8_partOf 2 = .ok (.lcmp, 1) := by decide +kernel
theorem dX8_partOf_3 : decode cX8_partOf 3 = .ok (.ifCond .ge 8, 3) := by decide +kernel
theorem dX8_partOf_6 : decode cX8_partOf 6 = .ok (.lload_n 0, 1) := by decide +kernel
theorem dX8_partOf_7 : decode cX8_partOf 7 = .ok (.lneg, 1) := by decide +kernel
theorem dX8_partOf_8 : decode cX8_partOf 8 = .ok (.goto 4, 3) := by decide +kernel
theorem dX8_partOf_11 : decode cX8_partOf 11 = .ok (.lload_n 0, 1) := by decide +kernel
theorem dX8_partOf_12 : decode cX8_partOf 12 = .ok (.lstore 5, 2) := by decide +kernel
theorem dX8_partOf_14 : decode cX8_partOf 14 = .ok (.lload_n 2, 1) := by decide +kernel
theorem dX8_partOf_15 : decode cX8_partOf 15 = .ok (.lstore 7, 2) := by decide +kernel
theorem dX8_partOf_17 : decode cX8_partOf 17 = .ok (.lload 7, 2) := by decide +kernel
theorem dX8_partOf_19 : decode cX8_partOf 19 = .ok (.lconst 0, 1) := by decide +kernel
theorem dX8_partOf_20 : decode cX8_partOf 20 = .ok (.lcmp, 1) := by decide +kernel
theorem dX8_partOf_21 : decode cX8_partOf 21 = .ok (.ifCond .eq 21, 3) := by decide +kernel
theorem dX8_partOf_24 : decode cX8_partOf 24 = .ok (.lload 5, 2) := by decide +kernel
theorem dX8_partOf_26 : decode cX8_partOf 26 = .ok (.lload 7, 2) := by decide +kernel
theorem dX8_partOf_28 : decode cX8_partOf 28 = .ok (.lrem, 1) := by decide +kernel
theorem dX8_partOf_29 : decode cX8_partOf 29 = .ok (.lstore 9, 2) := by decide +kernel
theorem dX8_partOf_31 : decode cX8_partOf 31 = .ok (.lload 7, 2) := by decide +kernel
theorem dX8_partOf_33 : decode cX8_partOf 33 = .ok (.lstore 5, 2) := by decide +kernel
theorem dX8_partOf_35 : decode cX8_partOf 35 = .ok (.lload 9, 2) := by decide +kernel
theorem dX8_partOf_37 : decode cX8_partOf 37 = .ok (.lstore 7, 2) := by decide +kernel
theorem dX8_partOf_39 : decode cX8_partOf 39 = .ok (.goto (-22), 3) := by decide +kernel
theorem dX8_partOf_42 : decode cX8_partOf 42 = .ok (.iload 4, 2) := by decide +kernel
theorem dX8_partOf_44 : decode cX8_partOf 44 = .ok (.ifCond .ne 10, 3) := by decide +kernel
theorem dX8_partOf_47 : decode cX8_partOf 47 = .ok (.lload_n 0, 1) := by decide +kernel
theorem dX8_partOf_48 : decode cX8_partOf 48 = .ok (.lload 5, 2) := by decide +kernel
theorem dX8_partOf_50 : decode cX8_partOf 50 = .ok (.ldiv, 1) := by decide +kernel
theorem dX8_partOf_51 : decode cX8_partOf 51 = .ok (.goto 7, 3) := by decide +kernel
theorem dX8_partOf_54 : decode cX8_partOf 54 = .ok (.lload_n 2, 1) := by decide +kernel
theorem dX8_partOf_55 : decode cX8_partOf 55 = .ok (.lload 5, 2) := by decide +kernel
theorem dX8_partOf_57 : decode cX8_partOf 57 = .ok (.ldiv, 1) := by decide +kernel
theorem dX8_partOf_58 : decode cX8_partOf 58 = .ok (.l2i, 1) := by decide +kernel
theorem dX8_partOf_59 : decode cX8_partOf 59 = .ok (.ireturn, 1) := by decide +kernel
set_option maxRecDepth 20000 in
theorem ggX8_clear_X8_bits : GoodIn wsX8_clear wsX8_bits := goodIn_r _ [5] (by decide +kernel) (by decide +kernel)
set_option maxRecDepth 20000 in
theorem gX8_clear_X8_bits : GoodIn wsX8_clear (va_wsS RX8 193 yX8_bits wsX8_bits) := goodIn_app (goodIn_of _ (by decide +kernel)) ggX8_clear_X8_bits
set_option maxRecDepth 20000 in
theorem ggX8_clear_X8_partOf : GoodIn wsX8_clear wsX8_partOf := goodIn_r _ [8] (by decide +kernel) (by decide +kernel)
set_option maxRecDepth 20000 in
theorem gX8_clear_X8_partOf : GoodIn wsX8_clear (va_wsS RX8 196 yX8_partOf wsX8_partOf) := goodIn_app (goodIn_of _ (by decide +kernel)) ggX8_clear_X8_partOf
theorem dX8_clear_0 : decode cX8_clear 0 = .ok (.aload_n 0, 1) := by decide +kernel
theorem dX8_clear_1 : decode cX8_clear 1 = .ok (.getfield 7, 3) := by decide +kernel
theorem dX8_clear_4 : decode cX8_clear 4 = .ok (.bipush 23, 2) := by decide +kernel
theorem dX8_clear_6 : decode cX8_clear 6 = .ok (.iaload, 1) := by decide +kernel
theorem dX8_clear_7 : decode cX8_clear 7 = .ok (.istore_n 3, 1) := by decide +kernel
theorem dX8_clear_8 : decode cX8_clear 8 = .ok (.iload_n 3, 1) := by decide +kernel
theorem dX8_clear_9 : decode cX8_clear 9 = .ok (.ifCond .ne 7, 3) := by decide +kernel
theorem dX8_clear_12 : decode cX8_clear 12 = .ok (.iconst 1, 1) := by decide +kernel
theorem dX8_clear_13 : decode cX8_clear 13 = .ok (.goto 23, 3) := by decide +kernel
theorem dX8_clear_16 : decode cX8_clear 16 = .ok (.iload_n 3, 1) := by decide +kernel
theorem dX8_clear_17 : decode cX8_clear 17 = .ok (.aload_n 0, 1) := by decide +kernel
theorem dX8_clear_18 : decode cX8_clear 18 = .ok (.getfield 7, 3) := by decide +kernel
theorem dX8_clear_21 : decode cX8_clear 21 = .ok (.iconst 0, 1) := by decide +kernel
theorem dX8_clear_22 : decode cX8_clear 22 = .ok (.iload_n 1, 1) := by decide +kernel
theorem dX8_clear_23 : decode cX8_clear 23 = .ok (.iadd, 1) := by decide +kernel
theorem dX8_clear_24 : decode cX8_clear 24 = .ok (.iaload, 1) := by decide +kernel
theorem dX8_clear_25 : decode cX8_clear 25 = .ok (.invokestatic 193, 3) := by decide +kernel
theorem dX8_clear_28 : decode cX8_clear 28 = .ok (.isub, 1) := by decide +kernel
theorem dX8_clear_29 : decode cX8_clear 29 = .ok (.i2l, 1) := by decide +kernel
theorem dX8_clear_30 : decode cX8_clear 30 = .ok (.iload_n 3, 1) := by decide +kernel
theorem dX8_clear_31 : decode cX8_clear 31 = .ok (.i2l, 1) := by decide +kernel
theorem dX8_clear_32 : decode cX8_clear 32 = .ok (.iload_n 2, 1) := by decide +kernel
theorem dX8_clear_33 : decode cX8_clear 33 = .ok (.invokestatic 196, 3) := by decide +kernel
theorem dX8_clear_36 : decode cX8_clear 36 = .ok (.ireturn, 1) := by decide +kernel
theorem dX8_leechesOn_0 : decode cX8_leechesOn 0 = .ok (.iconst 0, 1) := by decide +kernel
theorem dX8_leechesOn_1 : decode cX8_leechesOn 1 = .ok (.istore_n 2, 1) := by decide +kernel
theorem dX8_leechesOn_2 : decode cX8_leechesOn 2 = .ok (.iconst 0, 1) := by decide +kernel
theorem dX8_leechesOn_3 : decode cX8_leechesOn 3 = .ok (.istore_n 3, 1) := by decide +kernel
theorem dX8_leechesOn_4 : decode cX8_leechesOn 4 = .ok (.iload_n 3, 1) := by decide +kernel
theorem dX8_leechesOn_5 : decode cX8_leechesOn 5 = .ok (.aload_n 0, 1) := by decide +kernel
theorem dX8_leechesOn_6 : decode cX8_leechesOn 6 = .ok (.getfield 7, 3) := by decide +kernel
theorem dX8_leechesOn_9 : decode cX8_leechesOn 9 = .ok (.bipush 17, 2) := by decide +kernel
theorem dX8_leechesOn_11 : decode cX8_leechesOn 11 = .ok (.iaload, 1) := by decide +kernel
theorem dX8_leechesOn_12 : decode cX8_leechesOn 12 = .ok (.if_icmp .ge 31, 3) := by decide +kernel
theorem dX8_leechesOn_15 : decode cX8_leechesOn 15 = .ok (.iload_n 2, 1) := by decide +kernel
theorem dX8_leechesOn_16 : decode cX8_leechesOn 16 = .ok (.aload_n 0, 1) := by decide +kernel
theorem dX8_leechesOn_17 : decode cX8_leechesOn 17 = .ok (.getfield 7, 3) := by decide +kernel
theorem dX8_leechesOn_20 : decode cX8_leechesOn 20 = .ok (.iconst 4, 1) := by decide +kernel
theorem dX8_leechesOn_21 : decode cX8_leechesOn 21 = .ok (.iload_n 3, 1) := by decide +kernel
theorem dX8_leechesOn_22 : decode cX8_leechesOn 22 = .ok (.iadd, 1) := by decide +kernel
theorem dX8_leechesOn_23 : decode cX8_leechesOn 23 = .ok (.iaload, 1) := by decide +kernel
theorem dX8_leechesOn_24 : decode cX8_leechesOn 24 = .ok (.iload_n 1, 1) := by decide +kernel
theorem dX8_leechesOn_25 : decode cX8_leechesOn 25 = .ok (.if_icmp .ne 9, 3) := by decide +kernel
theorem dX8_leechesOn_28 : decode cX8_leechesOn 28 = .ok (.iconst 1, 1) := by decide +kernel
theorem dX8_leechesOn_29 : decode cX8_leechesOn 29 = .ok (.iload_n 3, 1) := by decide +kernel
theorem dX8_leechesOn_30 : decode cX8_leechesOn 30 = .ok (.ishl, 1) := by decide +kernel
theorem dX8_leechesOn_31 : decode cX8_leechesOn 31 = .ok (.goto 4, 3) := by decide +kernel
theorem dX8_leechesOn_34 : decode cX8_leechesOn 34 = .ok (.iconst 0, 1) := by decide +kernel
theorem dX8_leechesOn_35 : decode cX8_leechesOn 35 = .ok (.ior, 1) := by decide +kernel
theorem dX8_leechesOn_36 : decode cX8_leechesOn 36 = .ok (.istore_n 2, 1) := by decide +kernel
theorem dX8_leechesOn_37 : decode cX8_leechesOn 37 = .ok (.iinc 3 1, 3) := by decide +kernel
theorem dX8_leechesOn_40 : decode cX8_leechesOn 40 = .ok (.goto (-36), 3) := by decide +kernel
theorem dX8_leechesOn_43 : decode cX8_leechesOn 43 = .ok (.iload_n 2, 1) := by decide +kernel
theorem dX8_leechesOn_44 : decode cX8_leechesOn 44 = .ok (.ireturn, 1) := by decide +kernel
set_option maxRecDepth 20000 in
theorem ggX8_member_X8_isMember : GoodIn wsX8_member wsX8_isMember := goodIn_r _ [6, 1, 7, 8, 5, 9, 24, 25, 26, 27, 28, 29, 30, 31, 32, 33, 34, 35, 36, 37, 38, 39, 40, 41, 42, 43, 44, 45, 46, 47, 48, 49, 50, 51, 52, 53, 54, 55, 56, 57, 58, 59, 60] (by decide +kernel) (by decide +kernel)
set_option maxRecDepth 20000 in
theorem gX8_member_X8_isMember : GoodIn wsX8_member (wsV RX8 200 RX8 yX8_isMember wsX8_isMember) := goodIn_app (goodIn_of _ (by decide +kernel)) ggX8_member_X8_isMember
set_option maxRecDepth 20000 in
theorem ggX8_member_X8_leechesOn : GoodIn wsX8_member wsX8_leechesOn := goodIn_r _ [13, 1, 24, 25, 26, 27, 28, 29, 30, 31, 32, 33, 34, 35, 36, 37, 38, 39, 40, 41, 42, 43, 44, 45, 46, 47, 48, 49, 50, 51, 52, 53, 54, 55, 56, 57, 58, 59, 60] (by decide +kernel) (by decide +kernel)
set_option maxRecDepth 20000 in
theorem gX8_member_X8_leechesOn : GoodIn wsX8_member (wsV RX8 203 RX8 yX8_leechesOn wsX8_leechesOn) := goodIn_app (goodIn_of _ (by decide +kernel)) ggX8_member_X8_leechesOn
set_option maxRecDepth 20000 in
theorem ggX8_member_X8_clear : GoodIn wsX8_member wsX8_clear := goodIn_r _ [17, 1, 18, 19, 5, 20, 21, 22, 23, 24, 25, 26, 27, 28, 29, 30, 31, 32, 33, 34, 35, 36, 37, 38, 39, 40, 41, 42, 43, 44, 45, 46, 47, 48, 49, 50, 51, 52, 53, 54, 55, 56, 57, 58, 59, 60] (by decide +kernel) (by decide +kernel)
set_option maxRecDepth 20000 in
theorem gX8_member_X8_clear : GoodIn wsX8_member (wsV RX8 206 RX8 yX8_clear wsX8_clear) := goodIn_app (goodIn_of _ (by decide +kernel)) ggX8_member_X8_clear
theorem dX8_member_0 : decode cX8_member 0 = .ok (.aload_n 0, 1) := by decide +kernel
theorem dX8_member_1 : decode cX8_member 1 = .ok (.iload_n 1, 1) := by decide +kernel
theorem dX8_member_2 : decode cX8_member 2 = .ok (.invokevirtual 200, 3) := by decide +kernel
theorem dX8_member_5 : decode cX8_member 5 = .ok (.ifCond .ne 6, 3) := by decide +kernel
theorem dX8_member_8 : decode cX8_member 8 = .ok (.bipush (-2), 2) := by decide +kernel
theorem dX8_member_10 : decode cX8_member 10 = .ok (.ireturn, 1) := by decide +kernel
theorem dX8_member_11 : decode cX8_member 11 = .ok (.iload_n 2, 1) := by decide +kernel
theorem dX8_member_12 : decode cX8_member 12 = .ok (.tableswitch 61 0 3 #[32, 41, 47, 54], 32) := by decide +kernel
theorem dX8_member_44 : decode cX8_member 44 = .ok (.aload_n 0, 1) := by decide +kernel
theorem dX8_member_45 : decode cX8_member 45 = .ok (.getfield 7, 3) := by decide +kernel
theorem dX8_member_48 : decode cX8_member 48 = .ok (.iconst 0, 1) := by decide +kernel
theorem dX8_member_49 : decode cX8_member 49 = .ok (.iload_n 1, 1) := by decide +kernel
theorem dX8_member_50 : decode cX8_member 50 = .ok (.iadd, 1) := by decide +kernel
theorem dX8_member_51 : decode cX8_member 51 = .ok (.iaload, 1) := by decide +kernel
theorem dX8_member_52 : decode cX8_member 52 = .ok (.ireturn, 1) := by decide +kernel
theorem dX8_member_53 : decode cX8_member 53 = .ok (.aload_n 0, 1) := by decide +kernel
theorem dX8_member_54 : decode cX8_member 54 = .ok (.iload_n 1, 1) := by decide +kernel
theorem dX8_member_55 : decode cX8_member 55 = .ok (.invokevirtual 203, 3) := by decide +kernel
theorem dX8_member_58 : decode cX8_member 58 = .ok (.ireturn, 1) := by decide +kernel
theorem dX8_member_59 : decode cX8_member 59 = .ok (.aload_n 0, 1) := by decide +kernel
theorem dX8_member_60 : decode cX8_member 60 = .ok (.iload_n 1, 1) := by decide +kernel
theorem dX8_member_61 : decode cX8_member 61 = .ok (.iconst 0, 1) := by decide +kernel
theorem dX8_member_62 : decode cX8_member 62 = .ok (.invokevirtual 206, 3) := by decide +kernel
theorem dX8_member_65 : decode cX8_member 65 = .ok (.ireturn, 1) := by decide +kernel
theorem dX8_member_66 : decode cX8_member 66 = .ok (.aload_n 0, 1) := by decide +kernel
theorem dX8_member_67 : decode cX8_member 67 = .ok (.iload_n 1, 1) := by decide +kernel
theorem dX8_member_68 : decode cX8_member 68 = .ok (.iconst 1, 1) := by decide +kernel
theorem dX8_member_69 : decode cX8_member 69 = .ok (.invokevirtual 206, 3) := by decide +kernel
theorem dX8_member_72 : decode cX8_member 72 = .ok (.ireturn, 1) := by decide +kernel
theorem dX8_member_73 : decode cX8_member 73 = .ok (.bipush (-3), 2) := by decide +kernel
theorem dX8_member_75 : decode cX8_member 75 = .ok (.ireturn, 1) := by decide +kernel
set_option maxRecDepth 20000 in
theorem ggX8_leech_X8_isLeech : GoodIn wsX8_leech wsX8_isLeech := goodIn_r _ [6, 1, 7, 8, 5, 9, 10, 11, 12, 13, 14, 15, 16, 17, 18, 19, 20, 21, 22, 23, 24, 25, 26, 27, 28, 29, 30, 31, 32, 33, 34, 35, 36, 37, 38, 39, 40, 41, 42, 43, 44, 45, 46] (by decide +kernel) (by decide +kernel)
set_option maxRecDepth 20000 in
theorem gX8_leech_X8_isLeech : GoodIn wsX8_leech (wsV RX8 209 RX8 yX8_isLeech wsX8_isLeech) := goodIn_app (goodIn_of _ (by decide +kernel)) ggX8_leech_X8_isLeech
theorem dX8_leech_0 : decode cX8_leech 0 = .ok (.aload_n 0, 1) := by decide +kernel
theorem dX8_leech_1 : decode cX8_leech 1 = .ok (.iload_n 1, 1) := by decide +kernel
theorem dX8_leech_2 : decode cX8_leech 2 = .ok (.invokevirtual 209, 3) := by decide +kernel
theorem dX8_leech_5 : decode cX8_leech 5 = .ok (.ifCond .ne 6, 3) := by decide +kernel
theorem dX8_leech_8 : decode cX8_leech 8 = .ok (.bipush (-2), 2) := by decide +kernel
theorem dX8_leech_10 : decode cX8_leech 10 = .ok (.ireturn, 1) := by decide +kernel
theorem dX8_leech_11 : decode cX8_leech 11 = .ok (.iload_n 2, 1) := by decide +kernel
theorem dX8_leech_12 : decode cX8_leech 12 = .ok (.ifCond .ne 15, 3) := by decide +kernel
theorem dX8_leech_15 : decode cX8_leech 15 = .ok (.aload_n 0, 1) := by decide +kernel
theorem dX8_leech_16 : decode cX8_leech 16 = .ok (.getfield 7, 3) := by decide +kernel
theorem dX8_leech_19 : decode cX8_leech 19 = .ok (.bipush 18, 2) := by decide +kernel
theorem dX8_leech_21 : decode cX8_leech 21 = .ok (.iload_n 1, 1) := by decide +kernel
theorem dX8_leech_22 : decode cX8_leech 22 = .ok (.iadd, 1) := by decide +kernel
theorem dX8_leech_23 : decode cX8_leech 23 = .ok (.iaload, 1) := by decide +kernel
theorem dX8_leech_24 : decode cX8_leech 24 = .ok (.goto 38, 3) := by decide +kernel
theorem dX8_leech_27 : decode cX8_leech 27 = .ok (.iload_n 2, 1) := by decide +kernel
theorem dX8_leech_28 : decode cX8_leech 28 = .ok (.iconst 1, 1) := by decide +kernel
theorem dX8_leech_29 : decode cX8_leech 29 = .ok (.if_icmp .ne 14, 3) := by decide +kernel
theorem dX8_leech_32 : decode cX8_leech 32 = .ok (.aload_n 0, 1) := by decide +kernel
theorem dX8_leech_33 : decode cX8_leech 33 = .ok (.getfield 7, 3) := by decide +kernel
theorem dX8_leech_36 : decode cX8_leech 36 = .ok (.iconst 4, 1) := by decide +kernel
theorem dX8_leech_37 : decode cX8_leech 37 = .ok (.iload_n 1, 1) := by decide +kernel
theorem dX8_leech_38 : decode cX8_leech 38 = .ok (.iadd, 1) := by decide +kernel
theorem dX8_leech_39 : decode cX8_leech 39 = .ok (.iaload, 1) := by decide +kernel
theorem dX8_leech_40 : decode cX8_leech 40 = .ok (.goto 22, 3) := by decide +kernel
theorem dX8_leech_43 : decode cX8_leech 43 = .ok (.iload_n 2, 1) := by decide +kernel
theorem dX8_leech_44 : decode cX8_leech 44 = .ok (.iconst 2, 1) := by decide +kernel
theorem dX8_leech_45 : decode cX8_leech 45 = .ok (.if_icmp .ne 15, 3) := by decide +kernel
theorem dX8_leech_48 : decode cX8_leech 48 = .ok (.aload_n 0, 1) := by decide +kernel
theorem dX8_leech_49 : decode cX8_leech 49 = .ok (.getfield 7, 3) := by decide +kernel
theorem dX8_leech_52 : decode cX8_leech 52 = .ok (.bipush 9, 2) := by decide +kernel
theorem dX8_leech_54 : decode cX8_leech 54 = .ok (.iload_n 1, 1) := by decide +kernel
theorem dX8_leech_55 : decode cX8_leech 55 = .ok (.iadd, 1) := by decide +kernel
theorem dX8_leech_56 : decode cX8_leech 56 = .ok (.iaload, 1) := by decide +kernel
theorem dX8_leech_57 : decode cX8_leech 57 = .ok (.goto 5, 3) := by decide +kernel
theorem dX8_leech_60 : decode cX8_leech 60 = .ok (.bipush (-3), 2) := by decide +kernel
theorem dX8_leech_62 : decode cX8_leech 62 = .ok (.ireturn, 1) := by decide +kernel
set_option maxRecDepth 20000 in
theorem ggX8_as_X8_isLeech : GoodIn wsX8_as wsX8_isLeech := goodIn_r _ [7, 2, 8, 9, 6, 10, 14, 15, 16, 17, 18, 19, 20, 21, 22, 23, 24, 25, 26, 27, 28, 29, 30, 31, 32, 33, 34, 35, 36, 37, 38, 39, 40, 41, 42, 43, 44, 45, 46, 47, 48, 49, 50] (by decide +kernel) (by decide +kernel)
set_option maxRecDepth 20000 in
theorem gX8_as_X8_isLeech : GoodIn wsX8_as (wsV RX8 209 RX8 yX8_isLeech wsX8_isLeech) := goodIn_app (goodIn_of _ (by decide +kernel)) ggX8_as_X8_isLeech
set_option maxRecDepth 20000 in
theorem ggX8_as_X8_in : GoodIn wsX8_as wsX8_in := goodIn_r _ [10] (by decide +kernel) (by decide +kernel)
set_option maxRecDepth 20000 in
theorem gX8_as_X8_in : GoodIn wsX8_as (va_wsS RX8 86 yX8_in wsX8_in) := goodIn_app (goodIn_of _ (by decide +kernel)) ggX8_as_X8_in
set_option maxRecDepth 20000 in
theorem ggX8_as_X8_room : GoodIn wsX8_as wsX8_room := goodIn_r _ [13] (by decide +kernel) (by decide +kernel)
set_option maxRecDepth 20000 in
theorem gX8_as_X8_room : GoodIn wsX8_as (va_wsS RX8 214 yX8_room wsX8_room) := goodIn_app (goodIn_of _ (by decide +kernel)) ggX8_as_X8_room
theorem dX8_as_0 : decode cX8_as 0 = .ok (.aload_n 0, 1) := by decide +kernel
theorem dX8_as_1 : decode cX8_as 1 = .ok (.iload_n 1, 1) := by decide +kernel
theorem dX8_as_2 : decode cX8_as 2 = .ok (.invokevirtual 209, 3) := by decide +kernel
theorem dX8_as_5 : decode cX8_as 5 = .ok (.ifCond .ne 6, 3) := by decide +kernel
theorem dX8_as_8 : decode cX8_as 8 = .ok (.bipush (-2), 2) := by decide +kernel
theorem dX8_as_10 : decode cX8_as 10 = .ok (.ireturn, 1) := by decide +kernel
theorem dX8_as_11 : decode cX8_as 11 = .ok (.iload_n 2, 1) := by decide +kernel
theorem dX8_as_12 : decode cX8_as 12 = .ok (.i2l, 1) := by decide +kernel
theorem dX8_as_13 : decode cX8_as 13 = .ok (.lconst 0, 1) := by decide +kernel
theorem dX8_as_14 : decode cX8_as 14 = .ok (.ldc2_w 212, 3) := by decide +kernel
theorem dX8_as_17 : decode cX8_as 17 = .ok (.invokestatic 86, 3) := by decide +kernel
theorem dX8_as_20 : decode cX8_as 20 = .ok (.ifCond .ne 6, 3) := by decide +kernel
theorem dX8_as_23 : decode cX8_as 23 = .ok (.bipush (-3), 2) := by decide +kernel
theorem dX8_as_25 : decode cX8_as 25 = .ok (.ireturn, 1) := by decide +kernel
theorem dX8_as_26 : decode cX8_as 26 = .ok (.aload_n 0, 1) := by decide +kernel
theorem dX8_as_27 : decode cX8_as 27 = .ok (.getfield 7, 3) := by decide +kernel
theorem dX8_as_30 : decode cX8_as 30 = .ok (.bipush 18, 2) := by decide +kernel
theorem dX8_as_32 : decode cX8_as 32 = .ok (.iload_n 1, 1) := by decide +kernel
theorem dX8_as_33 : decode cX8_as 33 = .ok (.iadd, 1) := by decide +kernel
theorem dX8_as_34 : decode cX8_as 34 = .ok (.iaload, 1) := by decide +kernel
theorem dX8_as_35 : decode cX8_as 35 = .ok (.istore_n 3, 1) := by decide +kernel
theorem dX8_as_36 : decode cX8_as 36 = .ok (.iload_n 2, 1) := by decide +kernel
theorem dX8_as_37 : decode cX8_as 37 = .ok (.ifCond .eq 34, 3) := by decide +kernel
theorem dX8_as_40 : decode cX8_as 40 = .ok (.iload_n 2, 1) := by decide +kernel
theorem dX8_as_41 : decode cX8_as 41 = .ok (.iload_n 3, 1) := by decide +kernel
theorem dX8_as_42 : decode cX8_as 42 = .ok (.iconst 1, 1) := by decide +kernel
theorem dX8_as_43 : decode cX8_as 43 = .ok (.iadd, 1) := by decide +kernel
theorem dX8_as_44 : decode cX8_as 44 = .ok (.if_icmp .eq 27, 3) := by decide +kernel
theorem dX8_as_47 : decode cX8_as 47 = .ok (.iload_n 3, 1) := by decide +kernel
theorem dX8_as_48 : decode cX8_as 48 = .ok (.iconst 3, 1) := by decide +kernel
theorem dX8_as_49 : decode cX8_as 49 = .ok (.if_icmp .ge 12, 3) := by decide +kernel
theorem dX8_as_52 : decode cX8_as 52 = .ok (.iload_n 2, 1) := by decide +kernel
theorem dX8_as_53 : decode cX8_as 53 = .ok (.ifCond .le 8, 3) := by decide +kernel
theorem dX8_as_56 : decode cX8_as 56 = .ok (.iload_n 2, 1) := by decide +kernel
theorem dX8_as_57 : decode cX8_as 57 = .ok (.iload_n 3, 1) := by decide +kernel
theorem dX8_as_58 : decode cX8_as 58 = .ok (.if_icmp .le 13, 3) := by decide +kernel
theorem dX8_as_61 : decode cX8_as 61 = .ok (.iload_n 2, 1) := by decide +kernel
theorem dX8_as_62 : decode cX8_as 62 = .ok (.iconst 4, 1) := by decide +kernel
theorem dX8_as_63 : decode cX8_as 63 = .ok (.if_icmp .ne 12, 3) := by decide +kernel
theorem dX8_as_66 : decode cX8_as 66 = .ok (.iload_n 3, 1) := by decide +kernel
theorem dX8_as_67 : decode cX8_as 67 = .ok (.iconst 4, 1) := by decide +kernel
theorem dX8_as_68 : decode cX8_as 68 = .ok (.if_icmp .ne 7, 3) := by decide +kernel
theorem dX8_as_71 : decode cX8_as 71 = .ok (.iconst 1, 1) := by decide +kernel
theorem dX8_as_72 : decode cX8_as 72 = .ok (.goto 4, 3) := by decide +kernel
theorem dX8_as_75 : decode cX8_as 75 = .ok (.iconst 0, 1) := by decide +kernel
theorem dX8_as_76 : decode cX8_as 76 = .ok (.istore 4, 2) := by decide +kernel
theorem dX8_as_78 : decode cX8_as 78 = .ok (.iload 4, 2) := by decide +kernel
theorem dX8_as_80 : decode cX8_as 80 = .ok (.ifCond .eq 10, 3) := by decide +kernel
theorem dX8_as_83 : decode cX8_as 83 = .ok (.iload_n 3, 1) := by decide +kernel
theorem dX8_as_84 : decode cX8_as 84 = .ok (.invokestatic 214, 3) := by decide +kernel
theorem dX8_as_87 : decode cX8_as 87 = .ok (.goto 5, 3) := by decide +kernel
theorem dX8_as_90 : decode cX8_as 90 = .ok (.bipush (-4), 2) := by decide +kernel
theorem dX8_as_92 : decode cX8_as 92 = .ok (.ireturn, 1) := by decide +kernel
set_option maxRecDepth 20000 in
theorem ggX8_lost_X8_has : GoodIn wsX8_lost wsX8_has := goodIn_r _ [5] (by decide +kernel) (by decide +kernel)
set_option maxRecDepth 20000 in
theorem gX8_lost_X8_has : GoodIn wsX8_lost (va_wsS RX8 121 yX8_has wsX8_has) := goodIn_app (goodIn_of _ (by decide +kernel)) ggX8_lost_X8_has
theorem dX8_lost_0 : decode cX8_lost 0 = .ok (.iload_n 1, 1) := by decide +kernel
theorem dX8_lost_1 : decode cX8_lost 1 = .ok (.istore_n 3, 1) := by decide +kernel
theorem dX8_lost_2 : decode cX8_lost 2 = .ok (.iconst 0, 1) := by decide +kernel
theorem dX8_lost_3 : decode cX8_lost 3 = .ok (.istore 4, 2) := by decide +kernel
theorem dX8_lost_5 : decode cX8_lost 5 = .ok (.iload 4, 2) := by decide +kernel
theorem dX8_lost_7 : decode cX8_lost 7 = .ok (.aload_n 0, 1) := by decide +kernel
theorem dX8_lost_8 : decode cX8_lost 8 = .ok (.getfield 7, 3) := by decide +kernel
theorem dX8_lost_11 : decode cX8_lost 11 = .ok (.bipush 23, 2) := by decide +kernel
theorem dX8_lost_13 : decode cX8_lost 13 = .ok (.iaload, 1) := by decide +kernel
theorem dX8_lost_14 : decode cX8_lost 14 = .ok (.if_icmp .ge 39, 3) := by decide +kernel
theorem dX8_lost_17 : decode cX8_lost 17 = .ok (.iload_n 3, 1) := by decide +kernel
theorem dX8_lost_18 : decode cX8_lost 18 = .ok (.aload_n 0, 1) := by decide +kernel
theorem dX8_lost_19 : decode cX8_lost 19 = .ok (.getfield 7, 3) := by decide +kernel
theorem dX8_lost_22 : decode cX8_lost 22 = .ok (.bipush 36, 2) := by decide +kernel
theorem dX8_lost_24 : decode cX8_lost 24 = .ok (.iload 4, 2) := by decide +kernel
theorem dX8_lost_26 : decode cX8_lost 26 = .ok (.iadd, 1) := by decide +kernel
theorem dX8_lost_27 : decode cX8_lost 27 = .ok (.iaload, 1) := by decide +kernel
theorem dX8_lost_28 : decode cX8_lost 28 = .ok (.iload_n 2, 1) := by decide +kernel
theorem dX8_lost_29 : decode cX8_lost 29 = .ok (.invokestatic 121, 3) := by decide +kernel
theorem dX8_lost_32 : decode cX8_lost 32 = .ok (.ifCond .eq 12, 3) := by decide +kernel
theorem dX8_lost_35 : decode cX8_lost 35 = .ok (.iconst 1, 1) := by decide +kernel
theorem dX8_lost_36 : decode cX8_lost 36 = .ok (.iload 4, 2) := by decide +kernel
theorem dX8_lost_38 : decode cX8_lost 38 = .ok (.ishl, 1) := by decide +kernel
theorem dX8_lost_39 : decode cX8_lost 39 = .ok (.iconst (-1), 1) := by decide +kernel
theorem dX8_lost_40 : decode cX8_lost 40 = .ok (.ixor, 1) := by decide +kernel
theorem dX8_lost_41 : decode cX8_lost 41 = .ok (.goto 4, 3) := by decide +kernel
theorem dX8_lost_44 : decode cX8_lost 44 = .ok (.iconst (-1), 1) := by decide +kernel
theorem dX8_lost_45 : decode cX8_lost 45 = .ok (.iand, 1) := by decide +kernel
theorem dX8_lost_46 : decode cX8_lost 46 = .ok (.istore_n 3, 1) := by decide +kernel
theorem dX8_lost_47 : decode cX8_lost 47 = .ok (.iinc 4 1, 3) := by decide +kernel
theorem dX8_lost_50 : decode cX8_lost 50 = .ok (.goto (-45), 3) := by decide +kernel
theorem dX8_lost_53 : decode cX8_lost 53 = .ok (.iload_n 3, 1) := by decide +kernel
theorem dX8_lost_54 : decode cX8_lost 54 = .ok (.ireturn, 1) := by decide +kernel
set_option maxRecDepth 20000 in
theorem ggX8_nextFact_X8_has : GoodIn wsX8_nextFact wsX8_has := goodIn_r _ [4] (by decide +kernel) (by decide +kernel)
set_option maxRecDepth 20000 in
theorem gX8_nextFact_X8_has : GoodIn wsX8_nextFact (va_wsS RX8 121 yX8_has wsX8_has) := goodIn_app (goodIn_of _ (by decide +kernel)) ggX8_nextFact_X8_has
theorem dX8_nextFact_0 : decode cX8_nextFact 0 = .ok (.iload_n 1, 1) := by decide +kernel
theorem dX8_nextFact_1 : decode cX8_nextFact 1 = .ok (.ifCond .eq 7, 3) := by decide +kernel
theorem dX8_nextFact_4 : decode cX8_nextFact 4 = .ok (.iconst 0, 1) := by decide +kernel
theorem dX8_nextFact_5 : decode cX8_nextFact 5 = .ok (.goto 5, 3) := by decide +kernel
theorem dX8_nextFact_8 : decode cX8_nextFact 8 = .ok (.bipush 11, 2) := by decide +kernel
theorem dX8_nextFact_10 : decode cX8_nextFact 10 = .ok (.istore_n 2, 1) := by decide +kernel
theorem dX8_nextFact_11 : decode cX8_nextFact 11 = .ok (.iload_n 0, 1) := by decide +kernel
theorem dX8_nextFact_12 : decode cX8_nextFact 12 = .ok (.iload_n 2, 1) := by decide +kernel
theorem dX8_nextFact_13 : decode cX8_nextFact 13 = .ok (.invokestatic 121, 3) := by decide +kernel
theorem dX8_nextFact_16 : decode cX8_nextFact 16 = .ok (.ifCond .ne 18, 3) := by decide +kernel
theorem dX8_nextFact_19 : decode cX8_nextFact 19 = .ok (.iload_n 2, 1) := by decide +kernel
theorem dX8_nextFact_20 : decode cX8_nextFact 20 = .ok (.iload_n 1, 1) := by decide +kernel
theorem dX8_nextFact_21 : decode cX8_nextFact 21 = .ok (.ifCond .eq 7, 3) := by decide +kernel
theorem dX8_nextFact_24 : decode cX8_nextFact 24 = .ok (.iconst 1, 1) := by decide +kernel
theorem dX8_nextFact_25 : decode cX8_nextFact 25 = .ok (.goto 4, 3) := by decide +kernel
theorem dX8_nextFact_28 : decode cX8_nextFact 28 = .ok (.iconst (-1), 1) := by decide +kernel
theorem dX8_nextFact_29 : decode cX8_nextFact 29 = .ok (.iadd, 1) := by decide +kernel
theorem dX8_nextFact_30 : decode cX8_nextFact 30 = .ok (.istore_n 2, 1) := by decide +kernel
theorem dX8_nextFact_31 : decode cX8_nextFact 31 = .ok (.goto (-20), 3) := by decide +kernel
theorem dX8_nextFact_34 : decode cX8_nextFact 34 = .ok (.iload_n 2, 1) := by decide +kernel
theorem dX8_nextFact_35 : decode cX8_nextFact 35 = .ok (.ireturn, 1) := by decide +kernel
set_option maxRecDepth 20000 in
theorem ggX8_sucks_X8_bits : GoodIn wsX8_sucks wsX8_bits := goodIn_r _ [7] (by decide +kernel) (by decide +kernel)
set_option maxRecDepth 20000 in
theorem gX8_sucks_X8_bits : GoodIn wsX8_sucks (va_wsS RX8 193 yX8_bits wsX8_bits) := goodIn_app (goodIn_of _ (by decide +kernel)) ggX8_sucks_X8_bits
set_option maxRecDepth 20000 in
theorem ggX8_sucks_X8_room : GoodIn wsX8_sucks wsX8_room := goodIn_r _ [10] (by decide +kernel) (by decide +kernel)
set_option maxRecDepth 20000 in
theorem gX8_sucks_X8_room : GoodIn wsX8_sucks (va_wsS RX8 214 yX8_room wsX8_room) := goodIn_app (goodIn_of _ (by decide +kernel)) ggX8_sucks_X8_room
set_option maxRecDepth 20000 in
theorem ggX8_sucks_X8_takes : GoodIn wsX8_sucks wsX8_takes := goodIn_r _ [13] (by decide +kernel) (by decide +kernel)
set_option maxRecDepth 20000 in
theorem gX8_sucks_X8_takes : GoodIn wsX8_sucks (va_wsS RX8 223 yX8_takes wsX8_takes) := goodIn_app (goodIn_of _ (by decide +kernel)) ggX8_sucks_X8_takes
set_option maxRecDepth 20000 in
theorem ggX8_sucks_X8_nextFact : GoodIn wsX8_sucks wsX8_nextFact := goodIn_r _ [16, 17, 18, 6, 19] (by decide +kernel) (by decide +kernel)
set_option maxRecDepth 20000 in
theorem gX8_sucks_X8_nextFact : GoodIn wsX8_sucks (va_wsS RX8 229 yX8_nextFact wsX8_nextFact) := goodIn_app (goodIn_of _ (by decide +kernel)) ggX8_sucks_X8_nextFact
set_option maxRecDepth 20000 in
theorem ggX8_sucks_X8_lost : GoodIn wsX8_sucks wsX8_lost := goodIn_r _ [23, 24, 17, 18, 6, 19, 25, 26, 27, 28, 29, 30, 31, 32, 33, 34, 35, 36, 37, 38, 39, 40, 41, 42, 43, 44, 45, 46, 47, 48, 49, 50, 51, 52, 53, 54, 55, 56, 57, 58, 59, 60, 61] (by decide +kernel) (by decide +kernel)
set_option maxRecDepth 20000 in
theorem gX8_sucks_X8_lost : GoodIn wsX8_sucks (wsV RX8 233 RX8 yX8_lost wsX8_lost) := goodIn_app (goodIn_of _ (by decide +kernel)) ggX8_sucks_X8_lost
theorem dX8_sucks_0 : decode cX8_sucks 0 = .ok (.aload_n 0, 1) := by decide +kernel
theorem dX8_sucks_1 : decode cX8_sucks 1 = .ok (.aload_n 0, 1) := by decide +kernel
theorem dX8_sucks_2 : decode cX8_sucks 2 = .ok (.getfield 217, 3) := by decide +kernel
theorem dX8_sucks_5 : decode cX8_sucks 5 = .ok (.invokestatic 193, 3) := by decide +kernel
theorem dX8_sucks_8 : decode cX8_sucks 8 = .ok (.iload_n 1, 1) := by decide +kernel
theorem dX8_sucks_9 : decode cX8_sucks 9 = .ok (.invokestatic 214, 3) := by decide +kernel
theorem dX8_sucks_12 : decode cX8_sucks 12 = .ok (.if_icmp .lt 7, 3) := by decide +kernel
theorem dX8_sucks_15 : decode cX8_sucks 15 = .ok (.iconst 1, 1) := by decide +kernel
theorem dX8_sucks_16 : decode cX8_sucks 16 = .ok (.goto 4, 3) := by decide +kernel
theorem dX8_sucks_19 : decode cX8_sucks 19 = .ok (.iconst 0, 1) := by decide +kernel
theorem dX8_sucks_20 : decode cX8_sucks 20 = .ok (.putfield 220, 3) := by decide +kernel
theorem dX8_sucks_23 : decode cX8_sucks 23 = .ok (.iconst 0, 1) := by decide +kernel
theorem dX8_sucks_24 : decode cX8_sucks 24 = .ok (.istore_n 2, 1) := by decide +kernel
theorem dX8_sucks_25 : decode cX8_sucks 25 = .ok (.iload_n 2, 1) := by decide +kernel
theorem dX8_sucks_26 : decode cX8_sucks 26 = .ok (.iload_n 1, 1) := by decide +kernel
theorem dX8_sucks_27 : decode cX8_sucks 27 = .ok (.invokestatic 223, 3) := by decide +kernel
theorem dX8_sucks_30 : decode cX8_sucks 30 = .ok (.if_icmp .ge 89, 3) := by decide +kernel
theorem dX8_sucks_33 : decode cX8_sucks 33 = .ok (.aload_n 0, 1) := by decide +kernel
theorem dX8_sucks_34 : decode cX8_sucks 34 = .ok (.getfield 226, 3) := by decide +kernel
theorem dX8_sucks_37 : decode cX8_sucks 37 = .ok (.ifCond .eq 82, 3) := by decide +kernel
theorem dX8_sucks_40 : decode cX8_sucks 40 = .ok (.aload_n 0, 1) := by decide +kernel
theorem dX8_sucks_41 : decode cX8_sucks 41 = .ok (.getfield 220, 3) := by decide +kernel
theorem dX8_sucks_44 : decode cX8_sucks 44 = .ok (.ifCond .ne 75, 3) := by decide +kernel
theorem dX8_sucks_47 : decode cX8_sucks 47 = .ok (.aload_n 0, 1) := by decide +kernel
theorem dX8_sucks_48 : decode cX8_sucks 48 = .ok (.getfield 226, 3) := by decide +kernel
theorem dX8_sucks_51 : decode cX8_sucks 51 = .ok (.iload_n 1, 1) := by decide +kernel
theorem dX8_sucks_52 : decode cX8_sucks 52 = .ok (.iconst 3, 1) := by decide +kernel
theorem dX8_sucks_53 : decode cX8_sucks 53 = .ok (.if_icmp .lt 7, 3) := by decide +kernel
theorem dX8_sucks_56 : decode cX8_sucks 56 = .ok (.iconst 1, 1) := by decide +kernel
theorem dX8_sucks_57 : decode cX8_sucks 57 = .ok (.goto 4, 3) := by decide +kernel
theorem dX8_sucks_60 : decode cX8_sucks 60 = .ok (.iconst 0, 1) := by decide +kernel
theorem dX8_sucks_61 : decode cX8_sucks 61 = .ok (.invokestatic 229, 3) := by decide +kernel
theorem dX8_sucks_64 : decode cX8_sucks 64 = .ok (.istore_n 3, 1) := by decide +kernel
theorem dX8_sucks_65 : decode cX8_sucks 65 = .ok (.aload_n 0, 1) := by decide +kernel
theorem dX8_sucks_66 : decode cX8_sucks 66 = .ok (.dup, 1) := by decide +kernel
theorem dX8_sucks_67 : decode cX8_sucks 67 = .ok (.getfield 217, 3) := by decide +kernel
theorem dX8_sucks_70 : decode cX8_sucks 70 = .ok (.iconst 1, 1) := by decide +kernel
theorem dX8_sucks_71 : decode cX8_sucks 71 = .ok (.iload_n 3, 1) := by decide +kernel
theorem dX8_sucks_72 : decode cX8_sucks 72 = .ok (.ishl, 1) := by decide +kernel
theorem dX8_sucks_73 : decode cX8_sucks 73 = .ok (.ior, 1) := by decide +kernel
theorem dX8_sucks_74 : decode cX8_sucks 74 = .ok (.putfield 217, 3) := by decide +kernel
theorem dX8_sucks_77 : decode cX8_sucks 77 = .ok (.aload_n 0, 1) := by decide +kernel
theorem dX8_sucks_78 : decode cX8_sucks 78 = .ok (.aload_n 0, 1) := by decide +kernel
theorem dX8_sucks_79 : decode cX8_sucks 79 = .ok (.aload_n 0, 1) := by decide +kernel
theorem dX8_sucks_80 : decode cX8_sucks 80 = .ok (.getfield 226, 3) := by decide +kernel
theorem dX8_sucks_83 : decode cX8_sucks 83 = .ok (.iload_n 3, 1) := by decide +kernel
theorem dX8_sucks_84 : decode cX8_sucks 84 = .ok (.invokevirtual 233, 3) := by decide +kernel
theorem dX8_sucks_87 : decode cX8_sucks 87 = .ok (.putfield 226, 3) := by decide +kernel
theorem dX8_sucks_90 : decode cX8_sucks 90 = .ok (.aload_n 0, 1) := by decide +kernel
theorem dX8_sucks_91 : decode cX8_sucks 91 = .ok (.aload_n 0, 1) := by decide +kernel
theorem dX8_sucks_92 : decode cX8_sucks 92 = .ok (.getfield 217, 3) := by decide +kernel
theorem dX8_sucks_95 : decode cX8_sucks 95 = .ok (.invokestatic 193, 3) := by decide +kernel
theorem dX8_sucks_98 : decode cX8_sucks 98 = .ok (.iload_n 1, 1) := by decide +kernel
theorem dX8_sucks_99 : decode cX8_sucks 99 = .ok (.invokestatic 214, 3) := by decide +kernel
theorem dX8_sucks_102 : decode cX8_sucks 102 = .ok (.if_icmp .lt 7, 3) := by decide +kernel
theorem dX8_sucks_105 : decode cX8_sucks 105 = .ok (.iconst 1, 1) := by decide +kernel
theorem dX8_sucks_106 : decode cX8_sucks 106 = .ok (.goto 4, 3) := by decide +kernel
theorem dX8_sucks_109 : decode cX8_sucks 109 = .ok (.iconst 0, 1) := by decide +kernel
theorem dX8_sucks_110 : decode cX8_sucks 110 = .ok (.putfield 220, 3) := by decide +kernel
theorem dX8_sucks_113 : decode cX8_sucks 113 = .ok (.iinc 2 1, 3) := by decide +kernel
theorem dX8_sucks_116 : decode cX8_sucks 116 = .ok (.goto (-91), 3) := by decide +kernel
theorem dX8_sucks_119 : decode cX8_sucks 119 = .ok (.return_, 1) := by decide +kernel
set_option maxRecDepth 20000 in
theorem ggX8_passes_X8_sucks : GoodIn wsX8_passes wsX8_sucks := goodIn_r _ [9, 2, 4, 3, 10, 11, 8, 12, 13, 14, 15, 16, 17, 18, 19, 20, 21, 22, 23, 24, 25, 26, 27, 28, 1, 29, 30, 31, 32, 33, 34, 35, 36, 37, 38, 39, 40, 41, 42, 43, 44, 45, 46, 47, 48, 49, 50, 51, 52, 53, 54, 55, 56, 57, 58, 59, 60, 61, 62, 63, 64, 65] (by decide +kernel) (by decide +kernel)
set_option maxRecDepth 20000 in
theorem gX8_passes_X8_sucks : GoodIn wsX8_passes (wsV RX8 236 RX8 yX8_sucks wsX8_sucks) := goodIn_app (goodIn_of _ (by decide +kernel)) ggX8_passes_X8_sucks
theorem dX8_passes_0 : decode cX8_passes 0 = .ok (.iconst 0, 1) := by decide +kernel
theorem dX8_passes_1 : decode cX8_passes 1 = .ok (.istore_n 2, 1) := by decide +kernel
theorem dX8_passes_2 : decode cX8_passes 2 = .ok (.iload_n 2, 1) := by decide +kernel
theorem dX8_passes_3 : decode cX8_passes 3 = .ok (.aload_n 0, 1) := by decide +kernel
theorem dX8_passes_4 : decode cX8_passes 4 = .ok (.getfield 7, 3) := by decide +kernel
theorem dX8_passes_7 : decode cX8_passes 7 = .ok (.iload_n 1, 1) := by decide +kernel
theorem dX8_passes_8 : decode cX8_passes 8 = .ok (.bipush 17, 2) := by decide +kernel
theorem dX8_passes_10 : decode cX8_passes 10 = .ok (.iadd, 1) := by decide +kernel
theorem dX8_passes_11 : decode cX8_passes 11 = .ok (.iaload, 1) := by decide +kernel
theorem dX8_passes_12 : decode cX8_passes 12 = .ok (.if_icmp .ge 120, 3) := by decide +kernel
theorem dX8_passes_15 : decode cX8_passes 15 = .ok (.aload_n 0, 1) := by decide +kernel
theorem dX8_passes_16 : decode cX8_passes 16 = .ok (.getfield 7, 3) := by decide +kernel
theorem dX8_passes_19 : decode cX8_passes 19 = .ok (.iload_n 1, 1) := by decide +kernel
theorem dX8_passes_20 : decode cX8_passes 20 = .ok (.iconst 4, 1) := by decide +kernel
theorem dX8_passes_21 : decode cX8_passes 21 = .ok (.iadd, 1) := by decide +kernel
theorem dX8_passes_22 : decode cX8_passes 22 = .ok (.iload_n 2, 1) := by decide +kernel
theorem dX8_passes_23 : decode cX8_passes 23 = .ok (.iadd, 1) := by decide +kernel
theorem dX8_passes_24 : decode cX8_passes 24 = .ok (.iaload, 1) := by decide +kernel
theorem dX8_passes_25 : decode cX8_passes 25 = .ok (.istore_n 3, 1) := by decide +kernel
theorem dX8_passes_26 : decode cX8_passes 26 = .ok (.iload_n 3, 1) := by decide +kernel
theorem dX8_passes_27 : decode cX8_passes 27 = .ok (.iconst (-1), 1) := by decide +kernel
theorem dX8_passes_28 : decode cX8_passes 28 = .ok (.if_icmp .eq 98, 3) := by decide +kernel
theorem dX8_passes_31 : decode cX8_passes 31 = .ok (.aload_n 0, 1) := by decide +kernel
theorem dX8_passes_32 : decode cX8_passes 32 = .ok (.aload_n 0, 1) := by decide +kernel
theorem dX8_passes_33 : decode cX8_passes 33 = .ok (.getfield 7, 3) := by decide +kernel
theorem dX8_passes_36 : decode cX8_passes 36 = .ok (.iload_n 1, 1) := by decide +kernel
theorem dX8_passes_37 : decode cX8_passes 37 = .ok (.bipush 9, 2) := by decide +kernel
theorem dX8_passes_39 : decode cX8_passes 39 = .ok (.iadd, 1) := by decide +kernel
theorem dX8_passes_40 : decode cX8_passes 40 = .ok (.iload_n 2, 1) := by decide +kernel
theorem dX8_passes_41 : decode cX8_passes 41 = .ok (.iadd, 1) := by decide +kernel
theorem dX8_passes_42 : decode cX8_passes 42 = .ok (.iaload, 1) := by decide +kernel
theorem dX8_passes_43 : decode cX8_passes 43 = .ok (.putfield 217, 3) := by decide +kernel
theorem dX8_passes_46 : decode cX8_passes 46 = .ok (.aload_n 0, 1) := by decide +kernel
theorem dX8_passes_47 : decode cX8_passes 47 = .ok (.aload_n 0, 1) := by decide +kernel
theorem dX8_passes_48 : decode cX8_passes 48 = .ok (.getfield 7, 3) := by decide +kernel
theorem dX8_passes_51 : decode cX8_passes 51 = .ok (.iload_n 1, 1) := by decide +kernel
theorem dX8_passes_52 : decode cX8_passes 52 = .ok (.iconst 0, 1) := by decide +kernel
theorem dX8_passes_53 : decode cX8_passes 53 = .ok (.iadd, 1) := by decide +kernel
theorem dX8_passes_54 : decode cX8_passes 54 = .ok (.iload_n 3, 1) := by decide +kernel
theorem dX8_passes_55 : decode cX8_passes 55 = .ok (.iadd, 1) := by decide +kernel
theorem dX8_passes_56 : decode cX8_passes 56 = .ok (.iaload, 1) := by decide +kernel
theorem dX8_passes_57 : decode cX8_passes 57 = .ok (.putfield 226, 3) := by decide +kernel
theorem dX8_passes_60 : decode cX8_passes 60 = .ok (.aload_n 0, 1) := by decide +kernel
theorem dX8_passes_61 : decode cX8_passes 61 = .ok (.aload_n 0, 1) := by decide +kernel
theorem dX8_passes_62 : decode cX8_passes 62 = .ok (.getfield 7, 3) := by decide +kernel
theorem dX8_passes_65 : decode cX8_passes 65 = .ok (.iload_n 1, 1) := by decide +kernel
theorem dX8_passes_66 : decode cX8_passes 66 = .ok (.bipush 18, 2) := by decide +kernel
theorem dX8_passes_68 : decode cX8_passes 68 = .ok (.iadd, 1) := by decide +kernel
theorem dX8_passes_69 : decode cX8_passes 69 = .ok (.iload_n 2, 1) := by decide +kernel
theorem dX8_passes_70 : decode cX8_passes 70 = .ok (.iadd, 1) := by decide +kernel
theorem dX8_passes_71 : decode cX8_passes 71 = .ok (.iaload, 1) := by decide +kernel
theorem dX8_passes_72 : decode cX8_passes 72 = .ok (.invokevirtual 236, 3) := by decide +kernel
theorem dX8_passes_75 : decode cX8_passes 75 = .ok (.aload_n 0, 1) := by decide +kernel
theorem dX8_passes_76 : decode cX8_passes 76 = .ok (.getfield 7, 3) := by decide +kernel
theorem dX8_passes_79 : decode cX8_passes 79 = .ok (.iload_n 1, 1) := by decide +kernel
theorem dX8_passes_80 : decode cX8_passes 80 = .ok (.bipush 9, 2) := by decide +kernel
theorem dX8_passes_82 : decode cX8_passes 82 = .ok (.iadd, 1) := by decide +kernel
theorem dX8_passes_83 : decode cX8_passes 83 = .ok (.iload_n 2, 1) := by decide +kernel
theorem dX8_passes_84 : decode cX8_passes 84 = .ok (.iadd, 1) := by decide +kernel
theorem dX8_passes_85 : decode cX8_passes 85 = .ok (.aload_n 0, 1) := by decide +kernel
theorem dX8_passes_86 : decode cX8_passes 86 = .ok (.getfield 217, 3) := by decide +kernel
theorem dX8_passes_89 : decode cX8_passes 89 = .ok (.iastore, 1) := by decide +kernel
theorem dX8_passes_90 : decode cX8_passes 90 = .ok (.aload_n 0, 1) := by decide +kernel
theorem dX8_passes_91 : decode cX8_passes 91 = .ok (.getfield 7, 3) := by decide +kernel
theorem dX8_passes_94 : decode cX8_passes 94 = .ok (.iload_n 1, 1) := by decide +kernel
theorem dX8_passes_95 : decode cX8_passes 95 = .ok (.iconst 0, 1) := by decide +kernel
theorem dX8_passes_96 : decode cX8_passes 96 = .ok (.iadd, 1) := by decide +kernel
theorem dX8_passes_97 : decode cX8_passes 97 = .ok (.iload_n 3, 1) := by decide +kernel
theorem dX8_passes_98 : decode cX8_passes 98 = .ok (.iadd, 1) := by decide +kernel
theorem dX8_passes_99 : decode cX8_passes 99 = .ok (.aload_n 0, 1) := by decide +kernel
theorem dX8_passes_100 : decode cX8_passes 100 = .ok (.getfield 226, 3) := by decide +kernel
theorem dX8_passes_103 : decode cX8_passes 103 = .ok (.iastore, 1) := by decide +kernel
theorem dX8_passes_104 : decode cX8_passes 104 = .ok (.aload_n 0, 1) := by decide +kernel
theorem dX8_passes_105 : decode cX8_passes 105 = .ok (.getfield 7, 3) := by decide +kernel
theorem dX8_passes_108 : decode cX8_passes 108 = .ok (.iload_n 1, 1) := by decide +kernel
theorem dX8_passes_109 : decode cX8_passes 109 = .ok (.iconst 4, 1) := by decide +kernel
theorem dX8_passes_110 : decode cX8_passes 110 = .ok (.iadd, 1) := by decide +kernel
theorem dX8_passes_111 : decode cX8_passes 111 = .ok (.iload_n 2, 1) := by decide +kernel
theorem dX8_passes_112 : decode cX8_passes 112 = .ok (.iadd, 1) := by decide +kernel
theorem dX8_passes_113 : decode cX8_passes 113 = .ok (.aload_n 0, 1) := by decide +kernel
theorem dX8_passes_114 : decode cX8_passes 114 = .ok (.getfield 220, 3) := by decide +kernel
theorem dX8_passes_117 : decode cX8_passes 117 = .ok (.ifCond .eq 7, 3) := by decide +kernel
theorem dX8_passes_120 : decode cX8_passes 120 = .ok (.iconst (-1), 1) := by decide +kernel
theorem dX8_passes_121 : decode cX8_passes 121 = .ok (.goto 4, 3) := by decide +kernel
theorem dX8_passes_124 : decode cX8_passes 124 = .ok (.iload_n 3, 1) := by decide +kernel
theorem dX8_passes_125 : decode cX8_passes 125 = .ok (.iastore, 1) := by decide +kernel
theorem dX8_passes_126 : decode cX8_passes 126 = .ok (.iinc 2 1, 3) := by decide +kernel
theorem dX8_passes_129 : decode cX8_passes 129 = .ok (.goto (-127), 3) := by decide +kernel
theorem dX8_passes_132 : decode cX8_passes 132 = .ok (.aload_n 0, 1) := by decide +kernel
theorem dX8_passes_133 : decode cX8_passes 133 = .ok (.getfield 7, 3) := by decide +kernel
theorem dX8_passes_136 : decode cX8_passes 136 = .ok (.iload_n 1, 1) := by decide +kernel
theorem dX8_passes_137 : decode cX8_passes 137 = .ok (.bipush 15, 2) := by decide +kernel
theorem dX8_passes_139 : decode cX8_passes 139 = .ok (.iadd, 1) := by decide +kernel
theorem dX8_passes_140 : decode cX8_passes 140 = .ok (.dup2, 1) := by decide +kernel
theorem dX8_passes_141 : decode cX8_passes 141 = .ok (.iaload, 1) := by decide +kernel
theorem dX8_passes_142 : decode cX8_passes 142 = .ok (.iconst 1, 1) := by decide +kernel
theorem dX8_passes_143 : decode cX8_passes 143 = .ok (.iadd, 1) := by decide +kernel
theorem dX8_passes_144 : decode cX8_passes 144 = .ok (.iastore, 1) := by decide +kernel
theorem dX8_passes_145 : decode cX8_passes 145 = .ok (.return_, 1) := by decide +kernel
set_option maxRecDepth 20000 in
theorem ggX8_keepPast_X8_copyClub : GoodIn wsX8_keepPast wsX8_copyClub := goodIn_r _ [7, 2, 8, 9, 10, 11, 12, 13, 14, 15, 16, 17, 18, 19, 20, 21, 22, 23, 24, 25, 26, 27, 28, 29, 30, 31, 32, 33, 34, 35, 36, 37, 38, 39, 40, 41, 42, 43, 44] (by decide +kernel) (by decide +kernel)
set_option maxRecDepth 20000 in
theorem gX8_keepPast_X8_copyClub : GoodIn wsX8_keepPast (wsV RX8 180 RX8 yX8_copyClub wsX8_copyClub) := goodIn_app (goodIn_of _ (by decide +kernel)) ggX8_keepPast_X8_copyClub
theorem dX8_keepPast_0 : decode cX8_keepPast 0 = .ok (.aload_n 0, 1) := by decide +kernel
theorem dX8_keepPast_1 : decode cX8_keepPast 1 = .ok (.getfield 184, 3) := by decide +kernel
theorem dX8_keepPast_4 : decode cX8_keepPast 4 = .ok (.bipush 8, 2) := by decide +kernel
theorem dX8_keepPast_6 : decode cX8_keepPast 6 = .ok (.if_icmp .ne 47, 3) := by decide +kernel
theorem dX8_keepPast_9 : decode cX8_keepPast 9 = .ok (.iconst 0, 1) := by decide +kernel
theorem dX8_keepPast_10 : decode cX8_keepPast 10 = .ok (.istore_n 1, 1) := by decide +kernel
theorem dX8_keepPast_11 : decode cX8_keepPast 11 = .ok (.iload_n 1, 1) := by decide +kernel
theorem dX8_keepPast_12 : decode cX8_keepPast 12 = .ok (.sipush 336, 3) := by decide +kernel
theorem dX8_keepPast_15 : decode cX8_keepPast 15 = .ok (.if_icmp .ge 28, 3) := by decide +kernel
theorem dX8_keepPast_18 : decode cX8_keepPast 18 = .ok (.aload_n 0, 1) := by decide +kernel
theorem dX8_keepPast_19 : decode cX8_keepPast 19 = .ok (.getfield 7, 3) := by decide +kernel
theorem dX8_keepPast_22 : decode cX8_keepPast 22 = .ok (.bipush 96, 2) := by decide +kernel
theorem dX8_keepPast_24 : decode cX8_keepPast 24 = .ok (.iload_n 1, 1) := by decide +kernel
theorem dX8_keepPast_25 : decode cX8_keepPast 25 = .ok (.iadd, 1) := by decide +kernel
theorem dX8_keepPast_26 : decode cX8_keepPast 26 = .ok (.aload_n 0, 1) := by decide +kernel
theorem dX8_keepPast_27 : decode cX8_keepPast 27 = .ok (.getfield 7, 3) := by decide +kernel
theorem dX8_keepPast_30 : decode cX8_keepPast 30 = .ok (.sipush 144, 3) := by decide +kernel
theorem dX8_keepPast_33 : decode cX8_keepPast 33 = .ok (.iload_n 1, 1) := by decide +kernel
theorem dX8_keepPast_34 : decode cX8_keepPast 34 = .ok (.iadd, 1) := by decide +kernel
theorem dX8_keepPast_35 : decode cX8_keepPast 35 = .ok (.iaload, 1) := by decide +kernel
theorem dX8_keepPast_36 : decode cX8_keepPast 36 = .ok (.iastore, 1) := by decide +kernel
theorem dX8_keepPast_37 : decode cX8_keepPast 37 = .ok (.iinc 1 1, 3) := by decide +kernel
theorem dX8_keepPast_40 : decode cX8_keepPast 40 = .ok (.goto (-29), 3) := by decide +kernel
theorem dX8_keepPast_43 : decode cX8_keepPast 43 = .ok (.aload_n 0, 1) := by decide +kernel
theorem dX8_keepPast_44 : decode cX8_keepPast 44 = .ok (.dup, 1) := by decide +kernel
theorem dX8_keepPast_45 : decode cX8_keepPast 45 = .ok (.getfield 184, 3) := by decide +kernel
theorem dX8_keepPast_48 : decode cX8_keepPast 48 = .ok (.iconst 1, 1) := by decide +kernel
theorem dX8_keepPast_49 : decode cX8_keepPast 49 = .ok (.isub, 1) := by decide +kernel
theorem dX8_keepPast_50 : decode cX8_keepPast 50 = .ok (.putfield 184, 3) := by decide +kernel
theorem dX8_keepPast_53 : decode cX8_keepPast 53 = .ok (.aload_n 0, 1) := by decide +kernel
theorem dX8_keepPast_54 : decode cX8_keepPast 54 = .ok (.iconst 0, 1) := by decide +kernel
theorem dX8_keepPast_55 : decode cX8_keepPast 55 = .ok (.bipush 96, 2) := by decide +kernel
theorem dX8_keepPast_57 : decode cX8_keepPast 57 = .ok (.bipush 48, 2) := by decide +kernel
theorem dX8_keepPast_59 : decode cX8_keepPast 59 = .ok (.aload_n 0, 1) := by decide +kernel
theorem dX8_keepPast_60 : decode cX8_keepPast 60 = .ok (.getfield 184, 3) := by decide +kernel
theorem dX8_keepPast_63 : decode cX8_keepPast 63 = .ok (.imul, 1) := by decide +kernel
theorem dX8_keepPast_64 : decode cX8_keepPast 64 = .ok (.iadd, 1) := by decide +kernel
theorem dX8_keepPast_65 : decode cX8_keepPast 65 = .ok (.invokevirtual 180, 3) := by decide +kernel
theorem dX8_keepPast_68 : decode cX8_keepPast 68 = .ok (.aload_n 0, 1) := by decide +kernel
theorem dX8_keepPast_69 : decode cX8_keepPast 69 = .ok (.dup, 1) := by decide +kernel
theorem dX8_keepPast_70 : decode cX8_keepPast 70 = .ok (.getfield 184, 3) := by decide +kernel
theorem dX8_keepPast_73 : decode cX8_keepPast 73 = .ok (.iconst 1, 1) := by decide +kernel
theorem dX8_keepPast_74 : decode cX8_keepPast 74 = .ok (.iadd, 1) := by decide +kernel
theorem dX8_keepPast_75 : decode cX8_keepPast 75 = .ok (.putfield 184, 3) := by decide +kernel
theorem dX8_keepPast_78 : decode cX8_keepPast 78 = .ok (.return_, 1) := by decide +kernel
set_option maxRecDepth 20000 in
theorem ggX8_minute_X8_in : GoodIn wsX8_minute wsX8_in := goodIn_r _ [6] (by decide +kernel) (by decide +kernel)
set_option maxRecDepth 20000 in
theorem gX8_minute_X8_in : GoodIn wsX8_minute (va_wsS RX8 86 yX8_in wsX8_in) := goodIn_app (goodIn_of _ (by decide +kernel)) ggX8_minute_X8_in
set_option maxRecDepth 20000 in
theorem ggX8_minute_X8_keepPast : GoodIn wsX8_minute wsX8_keepPast := goodIn_r _ [10, 11, 2, 12, 13, 14, 5, 15, 46, 47, 48, 49, 50, 51, 52, 53, 54, 55, 56, 57, 58, 59, 60, 61, 62, 63, 64, 65, 66, 67, 68, 69, 70, 71, 72, 73, 74, 75, 76, 77, 78, 79, 80, 81, 82] (by decide +kernel) (by decide +kernel)
set_option maxRecDepth 20000 in
theorem gX8_minute_X8_keepPast : GoodIn wsX8_minute (wsV RX8 242 RX8 yX8_keepPast wsX8_keepPast) := goodIn_app (goodIn_of _ (by decide +kernel)) ggX8_minute_X8_keepPast
set_option maxRecDepth 20000 in
theorem ggX8_minute_X8_passes : GoodIn wsX8_minute wsX8_passes := goodIn_r _ [19, 2, 20, 21, 22, 23, 24, 25, 5, 26, 27, 28, 29, 30, 31, 32, 33, 34, 35, 36, 37, 38, 39, 40, 41, 42, 43, 44, 45, 46, 47, 48, 49, 50, 51, 52, 53, 54, 55, 56, 57, 58, 59, 60, 61, 62, 63, 64, 65, 66, 67, 68, 69, 70, 71, 72, 73, 74, 75, 76, 77, 78, 79, 80, 81, 82] (by decide +kernel) (by decide +kernel)
set_option maxRecDepth 20000 in
theorem gX8_minute_X8_passes : GoodIn wsX8_minute (wsV RX8 245 RX8 yX8_passes wsX8_passes) := goodIn_app (goodIn_of _ (by decide +kernel)) ggX8_minute_X8_passes
