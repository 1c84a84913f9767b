theorem dX8_minute_0 : decode cX8_minute 0 = .ok (.iload_n 1, 1) := by decide +kernel
theorem dX8_minute_1 : decode cX8_minute 1 = .ok (.i2l, 1) := by decide +kernel
theorem dX8_minute_2 : decode cX8_minute 2 = .ok (.lconst 1, 1) := by decide +kernel
theorem dX8_minute_3 : decode cX8_minute 3 = .ok (.ldc2_w 240, 3) := by decide +kernel
theorem dX8_minute_6 : decode cX8_minute 6 = .ok (.invokestatic 86, 3) := by decide +kernel
theorem dX8_minute_9 : decode cX8_minute 9 = .ok (.ifCond .ne 6, 3) := by decide +kernel
theorem dX8_minute_12 : decode cX8_minute 12 = .ok (.bipush (-3), 2) := by decide +kernel
theorem dX8_minute_14 : decode cX8_minute 14 = .ok (.ireturn, 1) := by decide +kernel
theorem dX8_minute_15 : decode cX8_minute 15 = .ok (.aload_n 0, 1) := by decide +kernel
theorem dX8_minute_16 : decode cX8_minute 16 = .ok (.getfield 7, 3) := by decide +kernel
theorem dX8_minute_19 : decode cX8_minute 19 = .ok (.bipush 15, 2) := by decide +kernel
theorem dX8_minute_21 : decode cX8_minute 21 = .ok (.iaload, 1) := by decide +kernel
theorem dX8_minute_22 : decode cX8_minute 22 = .ok (.iload_n 1, 1) := by decide +kernel
theorem dX8_minute_23 : decode cX8_minute 23 = .ok (.iadd, 1) := by decide +kernel
theorem dX8_minute_24 : decode cX8_minute 24 = .ok (.sipush 999, 3) := by decide +kernel
theorem dX8_minute_27 : decode cX8_minute 27 = .ok (.if_icmp .le 6, 3) := by decide +kernel
theorem dX8_minute_30 : decode cX8_minute 30 = .ok (.bipush (-5), 2) := by decide +kernel
theorem dX8_minute_32 : decode cX8_minute 32 = .ok (.ireturn, 1) := by decide +kernel
theorem dX8_minute_33 : decode cX8_minute 33 = .ok (.aload_n 0, 1) := by decide +kernel
theorem dX8_minute_34 : decode cX8_minute 34 = .ok (.invokevirtual 242, 3) := by decide +kernel
theorem dX8_minute_37 : decode cX8_minute 37 = .ok (.iconst 0, 1) := by decide +kernel
theorem dX8_minute_38 : decode cX8_minute 38 = .ok (.istore_n 2, 1) := by decide +kernel
theorem dX8_minute_39 : decode cX8_minute 39 = .ok (.iload_n 2, 1) := by decide +kernel
theorem dX8_minute_40 : decode cX8_minute 40 = .ok (.iload_n 1, 1) := by decide +kernel
theorem dX8_minute_41 : decode cX8_minute 41 = .ok (.if_icmp .ge 14, 3) := by decide +kernel
theorem dX8_minute_44 : decode cX8_minute 44 = .ok (.aload_n 0, 1) := by decide +kernel
theorem dX8_minute_45 : decode cX8_minute 45 = .ok (.iconst 0, 1) := by decide +kernel
theorem dX8_minute_46 : decode cX8_minute 46 = .ok (.invokevirtual 245, 3) := by decide +kernel
theorem dX8_minute_49 : decode cX8_minute 49 = .ok (.iinc 2 1, 3) := by decide +kernel
theorem dX8_minute_52 : decode cX8_minute 52 = .ok (.goto (-13), 3) := by decide +kernel
theorem dX8_minute_55 : decode cX8_minute 55 = .ok (.aload_n 0, 1) := by decide +kernel
theorem dX8_minute_56 : decode cX8_minute 56 = .ok (.getfield 7, 3) := by decide +kernel
theorem dX8_minute_59 : decode cX8_minute 59 = .ok (.bipush 15, 2) := by decide +kernel
theorem dX8_minute_61 : decode cX8_minute 61 = .ok (.iaload, 1) := by decide +kernel
theorem dX8_minute_62 : decode cX8_minute 62 = .ok (.ireturn, 1) := by decide +kernel
set_option maxRecDepth 20000 in
theorem ggX8_put_X8_isLeech : GoodIn wsX8_put wsX8_isLeech := goodIn_r _ [6, 1, 7, 8, 5, 9, 23, 24, 25, 26, 27, 28, 29, 30, 31, 32, 33, 34, 35, 36, 37, 38, 39, 40, 41, 42, 43, 44, 45, 46, 47, 48, 49, 50, 51, 52, 53, 54, 55, 56, 57, 58, 59] (by decide +kernel) (by decide +kernel)
set_option maxRecDepth 20000 in
theorem gX8_put_X8_isLeech : GoodIn wsX8_put (wsV RX8 209 RX8 yX8_isLeech wsX8_isLeech) := goodIn_app (goodIn_of _ (by decide +kernel)) ggX8_put_X8_isLeech
set_option maxRecDepth 20000 in
theorem ggX8_put_X8_isMember : GoodIn wsX8_put wsX8_isMember := goodIn_r _ [13, 1, 7, 8, 5, 9, 23, 24, 25, 26, 27, 28, 29, 30, 31, 32, 33, 34, 35, 36, 37, 38, 39, 40, 41, 42, 43, 44, 45, 46, 47, 48, 49, 50, 51, 52, 53, 54, 55, 56, 57, 58, 59] (by decide +kernel) (by decide +kernel)
set_option maxRecDepth 20000 in
theorem gX8_put_X8_isMember : GoodIn wsX8_put (wsV RX8 200 RX8 yX8_isMember wsX8_isMember) := goodIn_app (goodIn_of _ (by decide +kernel)) ggX8_put_X8_isMember
set_option maxRecDepth 20000 in
theorem ggX8_put_X8_keepPast : GoodIn wsX8_put wsX8_keepPast := goodIn_r _ [17, 18, 1, 19, 20, 21, 5, 22, 23, 24, 25, 26, 27, 28, 29, 30, 31, 32, 33, 34, 35, 36, 37, 38, 39, 40, 41, 42, 43, 44, 45, 46, 47, 48, 49, 50, 51, 52, 53, 54, 55, 56, 57, 58, 59] (by decide +kernel) (by decide +kernel)
set_option maxRecDepth 20000 in
theorem gX8_put_X8_keepPast : GoodIn wsX8_put (wsV RX8 242 RX8 yX8_keepPast wsX8_keepPast) := goodIn_app (goodIn_of _ (by decide +kernel)) ggX8_put_X8_keepPast
theorem dX8_put_0 : decode cX8_put 0 = .ok (.aload_n 0, 1) := by decide +kernel
theorem dX8_put_1 : decode cX8_put 1 = .ok (.iload_n 1, 1) := by decide +kernel
theorem dX8_put_2 : decode cX8_put 2 = .ok (.invokevirtual 209, 3) := by decide +kernel
theorem dX8_put_5 : decode cX8_put 5 = .ok (.ifCond .eq 16, 3) := by decide +kernel
theorem dX8_put_8 : decode cX8_put 8 = .ok (.iload_n 2, 1) := by decide +kernel
theorem dX8_put_9 : decode cX8_put 9 = .ok (.iconst (-1), 1) := by decide +kernel
theorem dX8_put_10 : decode cX8_put 10 = .ok (.if_icmp .eq 14, 3) := by decide +kernel
theorem dX8_put_13 : decode cX8_put 13 = .ok (.aload_n 0, 1) := by decide +kernel
theorem dX8_put_14 : decode cX8_put 14 = .ok (.iload_n 2, 1) := by decide +kernel
theorem dX8_put_15 : decode cX8_put 15 = .ok (.invokevirtual 200, 3) := by decide +kernel
theorem dX8_put_18 : decode cX8_put 18 = .ok (.ifCond .ne 6, 3) := by decide +kernel
theorem dX8_put_21 : decode cX8_put 21 = .ok (.bipush (-2), 2) := by decide +kernel
theorem dX8_put_23 : decode cX8_put 23 = .ok (.ireturn, 1) := by decide +kernel
theorem dX8_put_24 : decode cX8_put 24 = .ok (.aload_n 0, 1) := by decide +kernel
theorem dX8_put_25 : decode cX8_put 25 = .ok (.getfield 7, 3) := by decide +kernel
theorem dX8_put_28 : decode cX8_put 28 = .ok (.iconst 4, 1) := by decide +kernel
theorem dX8_put_29 : decode cX8_put 29 = .ok (.iload_n 1, 1) := by decide +kernel
theorem dX8_put_30 : decode cX8_put 30 = .ok (.iadd, 1) := by decide +kernel
theorem dX8_put_31 : decode cX8_put 31 = .ok (.iaload, 1) := by decide +kernel
theorem dX8_put_32 : decode cX8_put 32 = .ok (.istore_n 3, 1) := by decide +kernel
theorem dX8_put_33 : decode cX8_put 33 = .ok (.iload_n 3, 1) := by decide +kernel
theorem dX8_put_34 : decode cX8_put 34 = .ok (.iload_n 2, 1) := by decide +kernel
theorem dX8_put_35 : decode cX8_put 35 = .ok (.if_icmp .ne 6, 3) := by decide +kernel
theorem dX8_put_38 : decode cX8_put 38 = .ok (.bipush (-4), 2) := by decide +kernel
theorem dX8_put_40 : decode cX8_put 40 = .ok (.ireturn, 1) := by decide +kernel
theorem dX8_put_41 : decode cX8_put 41 = .ok (.aload_n 0, 1) := by decide +kernel
theorem dX8_put_42 : decode cX8_put 42 = .ok (.invokevirtual 242, 3) := by decide +kernel
theorem dX8_put_45 : decode cX8_put 45 = .ok (.aload_n 0, 1) := by decide +kernel
theorem dX8_put_46 : decode cX8_put 46 = .ok (.getfield 7, 3) := by decide +kernel
theorem dX8_put_49 : decode cX8_put 49 = .ok (.iconst 4, 1) := by decide +kernel
theorem dX8_put_50 : decode cX8_put 50 = .ok (.iload_n 1, 1) := by decide +kernel
theorem dX8_put_51 : decode cX8_put 51 = .ok (.iadd, 1) := by decide +kernel
theorem dX8_put_52 : decode cX8_put 52 = .ok (.iload_n 2, 1) := by decide +kernel
theorem dX8_put_53 : decode cX8_put 53 = .ok (.iastore, 1) := by decide +kernel
theorem dX8_put_54 : decode cX8_put 54 = .ok (.iload_n 3, 1) := by decide +kernel
theorem dX8_put_55 : decode cX8_put 55 = .ok (.ireturn, 1) := by decide +kernel
set_option maxRecDepth 20000 in
theorem ggX8_salt_X8_isLeech : GoodIn wsX8_salt wsX8_isLeech := goodIn_r _ [6, 1, 7, 8, 5, 9, 19, 20, 21, 22, 23, 24, 25, 26, 27, 28, 29, 30, 31, 32, 33, 34, 35, 36, 37, 38, 39, 40, 41, 42, 43, 44, 45, 46, 47, 48, 49, 50, 51, 52, 53, 54, 55] (by decide +kernel) (by decide +kernel)
set_option maxRecDepth 20000 in
theorem gX8_salt_X8_isLeech : GoodIn wsX8_salt (wsV RX8 209 RX8 yX8_isLeech wsX8_isLeech) := goodIn_app (goodIn_of _ (by decide +kernel)) ggX8_salt_X8_isLeech
set_option maxRecDepth 20000 in
theorem ggX8_salt_X8_keepPast : GoodIn wsX8_salt wsX8_keepPast := goodIn_r _ [13, 14, 1, 15, 16, 17, 5, 18, 19, 20, 21, 22, 23, 24, 25, 26, 27, 28, 29, 30, 31, 32, 33, 34, 35, 36, 37, 38, 39, 40, 41, 42, 43, 44, 45, 46, 47, 48, 49, 50, 51, 52, 53, 54, 55] (by decide +kernel) (by decide +kernel)
set_option maxRecDepth 20000 in
theorem gX8_salt_X8_keepPast : GoodIn wsX8_salt (wsV RX8 242 RX8 yX8_keepPast wsX8_keepPast) := goodIn_app (goodIn_of _ (by decide +kernel)) ggX8_salt_X8_keepPast
theorem dX8_salt_0 : decode cX8_salt 0 = .ok (.aload_n 0, 1) := by decide +kernel
theorem dX8_salt_1 : decode cX8_salt 1 = .ok (.iload_n 1, 1) := by decide +kernel
theorem dX8_salt_2 : decode cX8_salt 2 = .ok (.invokevirtual 209, 3) := by decide +kernel
theorem dX8_salt_5 : decode cX8_salt 5 = .ok (.ifCond .ne 6, 3) := by decide +kernel
theorem dX8_salt_8 : decode cX8_salt 8 = .ok (.bipush (-2), 2) := by decide +kernel
theorem dX8_salt_10 : decode cX8_salt 10 = .ok (.ireturn, 1) := by decide +kernel
theorem dX8_salt_11 : decode cX8_salt 11 = .ok (.aload_n 0, 1) := by decide +kernel
theorem dX8_salt_12 : decode cX8_salt 12 = .ok (.getfield 7, 3) := by decide +kernel
theorem dX8_salt_15 : decode cX8_salt 15 = .ok (.iconst 4, 1) := by decide +kernel
theorem dX8_salt_16 : decode cX8_salt 16 = .ok (.iload_n 1, 1) := by decide +kernel
theorem dX8_salt_17 : decode cX8_salt 17 = .ok (.iadd, 1) := by decide +kernel
theorem dX8_salt_18 : decode cX8_salt 18 = .ok (.iaload, 1) := by decide +kernel
theorem dX8_salt_19 : decode cX8_salt 19 = .ok (.iconst (-1), 1) := by decide +kernel
theorem dX8_salt_20 : decode cX8_salt 20 = .ok (.if_icmp .eq 6, 3) := by decide +kernel
theorem dX8_salt_23 : decode cX8_salt 23 = .ok (.bipush (-4), 2) := by decide +kernel
theorem dX8_salt_25 : decode cX8_salt 25 = .ok (.ireturn, 1) := by decide +kernel
theorem dX8_salt_26 : decode cX8_salt 26 = .ok (.aload_n 0, 1) := by decide +kernel
theorem dX8_salt_27 : decode cX8_salt 27 = .ok (.invokevirtual 242, 3) := by decide +kernel
theorem dX8_salt_30 : decode cX8_salt 30 = .ok (.aload_n 0, 1) := by decide +kernel
theorem dX8_salt_31 : decode cX8_salt 31 = .ok (.getfield 7, 3) := by decide +kernel
theorem dX8_salt_34 : decode cX8_salt 34 = .ok (.bipush 14, 2) := by decide +kernel
theorem dX8_salt_36 : decode cX8_salt 36 = .ok (.dup2, 1) := by decide +kernel
theorem dX8_salt_37 : decode cX8_salt 37 = .ok (.iaload, 1) := by decide +kernel
theorem dX8_salt_38 : decode cX8_salt 38 = .ok (.aload_n 0, 1) := by decide +kernel
theorem dX8_salt_39 : decode cX8_salt 39 = .ok (.getfield 7, 3) := by decide +kernel
theorem dX8_salt_42 : decode cX8_salt 42 = .ok (.bipush 9, 2) := by decide +kernel
theorem dX8_salt_44 : decode cX8_salt 44 = .ok (.iload_n 1, 1) := by decide +kernel
theorem dX8_salt_45 : decode cX8_salt 45 = .ok (.iadd, 1) := by decide +kernel
theorem dX8_salt_46 : decode cX8_salt 46 = .ok (.iaload, 1) := by decide +kernel
theorem dX8_salt_47 : decode cX8_salt 47 = .ok (.ior, 1) := by decide +kernel
theorem dX8_salt_48 : decode cX8_salt 48 = .ok (.iastore, 1) := by decide +kernel
theorem dX8_salt_49 : decode cX8_salt 49 = .ok (.aload_n 0, 1) := by decide +kernel
theorem dX8_salt_50 : decode cX8_salt 50 = .ok (.getfield 7, 3) := by decide +kernel
theorem dX8_salt_53 : decode cX8_salt 53 = .ok (.bipush 9, 2) := by decide +kernel
theorem dX8_salt_55 : decode cX8_salt 55 = .ok (.iload_n 1, 1) := by decide +kernel
theorem dX8_salt_56 : decode cX8_salt 56 = .ok (.iadd, 1) := by decide +kernel
theorem dX8_salt_57 : decode cX8_salt 57 = .ok (.iconst 0, 1) := by decide +kernel
theorem dX8_salt_58 : decode cX8_salt 58 = .ok (.iastore, 1) := by decide +kernel
theorem dX8_salt_59 : decode cX8_salt 59 = .ok (.aload_n 0, 1) := by decide +kernel
theorem dX8_salt_60 : decode cX8_salt 60 = .ok (.getfield 7, 3) := by decide +kernel
theorem dX8_salt_63 : decode cX8_salt 63 = .ok (.bipush 14, 2) := by decide +kernel
theorem dX8_salt_65 : decode cX8_salt 65 = .ok (.iaload, 1) := by decide +kernel
theorem dX8_salt_66 : decode cX8_salt 66 = .ok (.ireturn, 1) := by decide +kernel
set_option maxRecDepth 20000 in
theorem ggX8_read_X8_isMember : GoodIn wsX8_read wsX8_isMember := goodIn_r _ [6, 1, 7, 8, 5, 9, 29, 30, 31, 32, 33, 34, 35, 36, 37, 38, 39, 40, 41, 42, 43, 44, 45, 46, 47, 48, 49, 50, 51, 52, 53, 54, 55, 56, 57, 58, 59, 60, 61, 62, 63, 64, 65] (by decide +kernel) (by decide +kernel)
set_option maxRecDepth 20000 in
theorem gX8_read_X8_isMember : GoodIn wsX8_read (wsV RX8 200 RX8 yX8_isMember wsX8_isMember) := goodIn_app (goodIn_of _ (by decide +kernel)) ggX8_read_X8_isMember
set_option maxRecDepth 20000 in
theorem ggX8_read_X8_isFact : GoodIn wsX8_read wsX8_isFact := goodIn_r _ [13, 1, 7, 8, 5, 9, 29, 30, 31, 32, 33, 34, 35, 36, 37, 38, 39, 40, 41, 42, 43, 44, 45, 46, 47, 48, 49, 50, 51, 52, 53, 54, 55, 56, 57, 58, 59, 60, 61, 62, 63, 64, 65] (by decide +kernel) (by decide +kernel)
set_option maxRecDepth 20000 in
theorem gX8_read_X8_isFact : GoodIn wsX8_read (wsV RX8 190 RX8 yX8_isFact wsX8_isFact) := goodIn_app (goodIn_of _ (by decide +kernel)) ggX8_read_X8_isFact
set_option maxRecDepth 20000 in
theorem ggX8_read_X8_has : GoodIn wsX8_read wsX8_has := goodIn_r _ [16] (by decide +kernel) (by decide +kernel)
set_option maxRecDepth 20000 in
theorem gX8_read_X8_has : GoodIn wsX8_read (va_wsS RX8 121 yX8_has wsX8_has) := goodIn_app (goodIn_of _ (by decide +kernel)) ggX8_read_X8_has
set_option maxRecDepth 20000 in
theorem ggX8_read_X8_keepPast : GoodIn wsX8_read wsX8_keepPast := goodIn_r _ [20, 21, 1, 22, 23, 24, 5, 25, 29, 30, 31, 32, 33, 34, 35, 36, 37, 38, 39, 40, 41, 42, 43, 44, 45, 46, 47, 48, 49, 50, 51, 52, 53, 54, 55, 56, 57, 58, 59, 60, 61, 62, 63, 64, 65] (by decide +kernel) (by decide +kernel)
set_option maxRecDepth 20000 in
theorem gX8_read_X8_keepPast : GoodIn wsX8_read (wsV RX8 242 RX8 yX8_keepPast wsX8_keepPast) := goodIn_app (goodIn_of _ (by decide +kernel)) ggX8_read_X8_keepPast
set_option maxRecDepth 20000 in
theorem ggX8_read_X8_bits : GoodIn wsX8_read wsX8_bits := goodIn_r _ [28] (by decide +kernel) (by decide +kernel)
set_option maxRecDepth 20000 in
theorem gX8_read_X8_bits : GoodIn wsX8_read (va_wsS RX8 193 yX8_bits wsX8_bits) := goodIn_app (goodIn_of _ (by decide +kernel)) ggX8_read_X8_bits
theorem dX8_read_0 : decode cX8_read 0 = .ok (.aload_n 0, 1) := by decide +kernel
theorem dX8_read_1 : decode cX8_read 1 = .ok (.iload_n 1, 1) := by decide +kernel
theorem dX8_read_2 : decode cX8_read 2 = .ok (.invokevirtual 200, 3) := by decide +kernel
theorem dX8_read_5 : decode cX8_read 5 = .ok (.ifCond .eq 11, 3) := by decide +kernel
theorem dX8_read_8 : decode cX8_read 8 = .ok (.aload_n 0, 1) := by decide +kernel
theorem dX8_read_9 : decode cX8_read 9 = .ok (.iload_n 2, 1) := by decide +kernel
theorem dX8_read_10 : decode cX8_read 10 = .ok (.invokevirtual 190, 3) := by decide +kernel
theorem dX8_read_13 : decode cX8_read 13 = .ok (.ifCond .ne 6, 3) := by decide +kernel
theorem dX8_read_16 : decode cX8_read 16 = .ok (.bipush (-2), 2) := by decide +kernel
theorem dX8_read_18 : decode cX8_read 18 = .ok (.ireturn, 1) := by decide +kernel
theorem dX8_read_19 : decode cX8_read 19 = .ok (.aload_n 0, 1) := by decide +kernel
theorem dX8_read_20 : decode cX8_read 20 = .ok (.getfield 7, 3) := by decide +kernel
theorem dX8_read_23 : decode cX8_read 23 = .ok (.iconst 0, 1) := by decide +kernel
theorem dX8_read_24 : decode cX8_read 24 = .ok (.iload_n 1, 1) := by decide +kernel
theorem dX8_read_25 : decode cX8_read 25 = .ok (.iadd, 1) := by decide +kernel
theorem dX8_read_26 : decode cX8_read 26 = .ok (.iaload, 1) := by decide +kernel
theorem dX8_read_27 : decode cX8_read 27 = .ok (.iload_n 2, 1) := by decide +kernel
theorem dX8_read_28 : decode cX8_read 28 = .ok (.invokestatic 121, 3) := by decide +kernel
theorem dX8_read_31 : decode cX8_read 31 = .ok (.ifCond .eq 6, 3) := by decide +kernel
theorem dX8_read_34 : decode cX8_read 34 = .ok (.bipush (-4), 2) := by decide +kernel
theorem dX8_read_36 : decode cX8_read 36 = .ok (.ireturn, 1) := by decide +kernel
theorem dX8_read_37 : decode cX8_read 37 = .ok (.aload_n 0, 1) := by decide +kernel
theorem dX8_read_38 : decode cX8_read 38 = .ok (.invokevirtual 242, 3) := by decide +kernel
theorem dX8_read_41 : decode cX8_read 41 = .ok (.aload_n 0, 1) := by decide +kernel
theorem dX8_read_42 : decode cX8_read 42 = .ok (.getfield 7, 3) := by decide +kernel
theorem dX8_read_45 : decode cX8_read 45 = .ok (.bipush 36, 2) := by decide +kernel
theorem dX8_read_47 : decode cX8_read 47 = .ok (.iload_n 2, 1) := by decide +kernel
theorem dX8_read_48 : decode cX8_read 48 = .ok (.iadd, 1) := by decide +kernel
theorem dX8_read_49 : decode cX8_read 49 = .ok (.iaload, 1) := by decide +kernel
theorem dX8_read_50 : decode cX8_read 50 = .ok (.aload_n 0, 1) := by decide +kernel
theorem dX8_read_51 : decode cX8_read 51 = .ok (.getfield 7, 3) := by decide +kernel
theorem dX8_read_54 : decode cX8_read 54 = .ok (.iconst 0, 1) := by decide +kernel
theorem dX8_read_55 : decode cX8_read 55 = .ok (.iload_n 1, 1) := by decide +kernel
theorem dX8_read_56 : decode cX8_read 56 = .ok (.iadd, 1) := by decide +kernel
theorem dX8_read_57 : decode cX8_read 57 = .ok (.iaload, 1) := by decide +kernel
theorem dX8_read_58 : decode cX8_read 58 = .ok (.iconst (-1), 1) := by decide +kernel
theorem dX8_read_59 : decode cX8_read 59 = .ok (.ixor, 1) := by decide +kernel
theorem dX8_read_60 : decode cX8_read 60 = .ok (.iand, 1) := by decide +kernel
theorem dX8_read_61 : decode cX8_read 61 = .ok (.istore_n 3, 1) := by decide +kernel
theorem dX8_read_62 : decode cX8_read 62 = .ok (.aload_n 0, 1) := by decide +kernel
theorem dX8_read_63 : decode cX8_read 63 = .ok (.getfield 7, 3) := by decide +kernel
theorem dX8_read_66 : decode cX8_read 66 = .ok (.iconst 0, 1) := by decide +kernel
theorem dX8_read_67 : decode cX8_read 67 = .ok (.iload_n 1, 1) := by decide +kernel
theorem dX8_read_68 : decode cX8_read 68 = .ok (.iadd, 1) := by decide +kernel
theorem dX8_read_69 : decode cX8_read 69 = .ok (.dup2, 1) := by decide +kernel
theorem dX8_read_70 : decode cX8_read 70 = .ok (.iaload, 1) := by decide +kernel
theorem dX8_read_71 : decode cX8_read 71 = .ok (.iload_n 3, 1) := by decide +kernel
theorem dX8_read_72 : decode cX8_read 72 = .ok (.ior, 1) := by decide +kernel
theorem dX8_read_73 : decode cX8_read 73 = .ok (.iastore, 1) := by decide +kernel
theorem dX8_read_74 : decode cX8_read 74 = .ok (.iload_n 3, 1) := by decide +kernel
theorem dX8_read_75 : decode cX8_read 75 = .ok (.invokestatic 193, 3) := by decide +kernel
theorem dX8_read_78 : decode cX8_read 78 = .ok (.ireturn, 1) := by decide +kernel
set_option maxRecDepth 20000 in
theorem ggX8_undo_X8_copyClub : GoodIn wsX8_undo wsX8_copyClub := goodIn_r _ [6, 7, 8, 9, 10, 11, 12, 13, 14, 15, 16, 17, 18, 19, 20, 21, 22, 23, 24, 25, 26, 27, 28, 29, 30, 31, 32, 33, 34, 35, 36, 37, 38, 39, 40, 41, 42, 43, 44] (by decide +kernel) (by decide +kernel)
set_option maxRecDepth 20000 in
theorem gX8_undo_X8_copyClub : GoodIn wsX8_undo (wsV RX8 180 RX8 yX8_copyClub wsX8_copyClub) := goodIn_app (goodIn_of _ (by decide +kernel)) ggX8_undo_X8_copyClub
theorem dX8_undo_0 : decode cX8_undo 0 = .ok (.aload_n 0, 1) := by decide +kernel
theorem dX8_undo_1 : decode cX8_undo 1 = .ok (.getfield 184, 3) := by decide +kernel
theorem dX8_undo_4 : decode cX8_undo 4 = .ok (.ifCond .ne 6, 3) := by decide +kernel
theorem dX8_undo_7 : decode cX8_undo 7 = .ok (.bipush (-4), 2) := by decide +kernel
theorem dX8_undo_9 : decode cX8_undo 9 = .ok (.ireturn, 1) := by decide +kernel
theorem dX8_undo_10 : decode cX8_undo 10 = .ok (.aload_n 0, 1) := by decide +kernel
theorem dX8_undo_11 : decode cX8_undo 11 = .ok (.dup, 1) := by decide +kernel
theorem dX8_undo_12 : decode cX8_undo 12 = .ok (.getfield 184, 3) := by decide +kernel
theorem dX8_undo_15 : decode cX8_undo 15 = .ok (.iconst 1, 1) := by decide +kernel
theorem dX8_undo_16 : decode cX8_undo 16 = .ok (.isub, 1) := by decide +kernel
theorem dX8_undo_17 : decode cX8_undo 17 = .ok (.putfield 184, 3) := by decide +kernel
theorem dX8_undo_20 : decode cX8_undo 20 = .ok (.aload_n 0, 1) := by decide +kernel
theorem dX8_undo_21 : decode cX8_undo 21 = .ok (.bipush 96, 2) := by decide +kernel
theorem dX8_undo_23 : decode cX8_undo 23 = .ok (.bipush 48, 2) := by decide +kernel
theorem dX8_undo_25 : decode cX8_undo 25 = .ok (.aload_n 0, 1) := by decide +kernel
theorem dX8_undo_26 : decode cX8_undo 26 = .ok (.getfield 184, 3) := by decide +kernel
theorem dX8_undo_29 : decode cX8_undo 29 = .ok (.imul, 1) := by decide +kernel
theorem dX8_undo_30 : decode cX8_undo 30 = .ok (.iadd, 1) := by decide +kernel
theorem dX8_undo_31 : decode cX8_undo 31 = .ok (.iconst 0, 1) := by decide +kernel
theorem dX8_undo_32 : decode cX8_undo 32 = .ok (.invokevirtual 180, 3) := by decide +kernel
theorem dX8_undo_35 : decode cX8_undo 35 = .ok (.aload_n 0, 1) := by decide +kernel
theorem dX8_undo_36 : decode cX8_undo 36 = .ok (.getfield 184, 3) := by decide +kernel
theorem dX8_undo_39 : decode cX8_undo 39 = .ok (.ireturn, 1) := by decide +kernel
set_option maxRecDepth 20000 in
theorem ggX8_keep_X8_in : GoodIn wsX8_keep wsX8_in := goodIn_r _ [6] (by decide +kernel) (by decide +kernel)
set_option maxRecDepth 20000 in
theorem gX8_keep_X8_in : GoodIn wsX8_keep (va_wsS RX8 86 yX8_in wsX8_in) := goodIn_app (goodIn_of _ (by decide +kernel)) ggX8_keep_X8_in
set_option maxRecDepth 20000 in
theorem ggX8_keep_X8_copyClub : GoodIn wsX8_keep wsX8_copyClub := goodIn_r _ [10, 2, 11, 12, 13, 14, 15, 16, 17, 18, 19, 20, 21, 22, 23, 24, 25, 26, 27, 28, 29, 30, 31, 32, 33, 34, 35, 36, 37, 38, 39, 40, 41, 42, 43, 44, 45, 46, 47] (by decide +kernel) (by decide +kernel)
set_option maxRecDepth 20000 in
theorem gX8_keep_X8_copyClub : GoodIn wsX8_keep (wsV RX8 180 RX8 yX8_copyClub wsX8_copyClub) := goodIn_app (goodIn_of _ (by decide +kernel)) ggX8_keep_X8_copyClub
theorem dX8_keep_0 : decode cX8_keep 0 = .ok (.iload_n 1, 1) := by decide +kernel
theorem dX8_keep_1 : decode cX8_keep 1 = .ok (.i2l, 1) := by decide +kernel
theorem dX8_keep_2 : decode cX8_keep 2 = .ok (.lconst 0, 1) := by decide +kernel
theorem dX8_keep_3 : decode cX8_keep 3 = .ok (.lconst 1, 1) := by decide +kernel
theorem dX8_keep_4 : decode cX8_keep 4 = .ok (.invokestatic 86, 3) := by decide +kernel
theorem dX8_keep_7 : decode cX8_keep 7 = .ok (.ifCond .ne 6, 3) := by decide +kernel
theorem dX8_keep_10 : decode cX8_keep 10 = .ok (.bipush (-2), 2) := by decide +kernel
theorem dX8_keep_12 : decode cX8_keep 12 = .ok (.ireturn, 1) := by decide +kernel
theorem dX8_keep_13 : decode cX8_keep 13 = .ok (.aload_n 0, 1) := by decide +kernel
theorem dX8_keep_14 : decode cX8_keep 14 = .ok (.iconst 0, 1) := by decide +kernel
theorem dX8_keep_15 : decode cX8_keep 15 = .ok (.sipush 480, 3) := by decide +kernel
theorem dX8_keep_18 : decode cX8_keep 18 = .ok (.bipush 48, 2) := by decide +kernel
theorem dX8_keep_20 : decode cX8_keep 20 = .ok (.iload_n 1, 1) := by decide +kernel
theorem dX8_keep_21 : decode cX8_keep 21 = .ok (.imul, 1) := by decide +kernel
theorem dX8_keep_22 : decode cX8_keep 22 = .ok (.iadd, 1) := by decide +kernel
theorem dX8_keep_23 : decode cX8_keep 23 = .ok (.invokevirtual 180, 3) := by decide +kernel
theorem dX8_keep_26 : decode cX8_keep 26 = .ok (.aload_n 0, 1) := by decide +kernel
theorem dX8_keep_27 : decode cX8_keep 27 = .ok (.getfield 13, 3) := by decide +kernel
theorem dX8_keep_30 : decode cX8_keep 30 = .ok (.iload_n 1, 1) := by decide +kernel
theorem dX8_keep_31 : decode cX8_keep 31 = .ok (.iconst 1, 1) := by decide +kernel
theorem dX8_keep_32 : decode cX8_keep 32 = .ok (.bastore, 1) := by decide +kernel
theorem dX8_keep_33 : decode cX8_keep 33 = .ok (.aload_n 0, 1) := by decide +kernel
theorem dX8_keep_34 : decode cX8_keep 34 = .ok (.getfield 7, 3) := by decide +kernel
theorem dX8_keep_37 : decode cX8_keep 37 = .ok (.bipush 15, 2) := by decide +kernel
theorem dX8_keep_39 : decode cX8_keep 39 = .ok (.iaload, 1) := by decide +kernel
theorem dX8_keep_40 : decode cX8_keep 40 = .ok (.ireturn, 1) := by decide +kernel
set_option maxRecDepth 20000 in
theorem ggX8_back_X8_in : GoodIn wsX8_back wsX8_in := goodIn_r _ [7] (by decide +kernel) (by decide +kernel)
set_option maxRecDepth 20000 in
theorem gX8_back_X8_in : GoodIn wsX8_back (va_wsS RX8 86 yX8_in wsX8_in) := goodIn_app (goodIn_of _ (by decide +kernel)) ggX8_back_X8_in
set_option maxRecDepth 20000 in
theorem ggX8_back_X8_copyClub : GoodIn wsX8_back wsX8_copyClub := goodIn_r _ [11, 3, 12, 13, 14, 15, 16, 17, 18, 19, 20, 21, 22, 23, 24, 25, 26, 27, 28, 29, 30, 31, 32, 33, 34, 35, 36, 37, 38, 39, 40, 41, 42, 43, 44, 45, 46, 47, 48] (by decide +kernel) (by decide +kernel)
set_option maxRecDepth 20000 in
theorem gX8_back_X8_copyClub : GoodIn wsX8_back (wsV RX8 180 RX8 yX8_copyClub wsX8_copyClub) := goodIn_app (goodIn_of _ (by decide +kernel)) ggX8_back_X8_copyClub
theorem dX8_back_0 : decode cX8_back 0 = .ok (.iload_n 1, 1) := by decide +kernel
theorem dX8_back_1 : decode cX8_back 1 = .ok (.i2l, 1) := by decide +kernel
theorem dX8_back_2 : decode cX8_back 2 = .ok (.lconst 0, 1) := by decide +kernel
theorem dX8_back_3 : decode cX8_back 3 = .ok (.lconst 1, 1) := by decide +kernel
theorem dX8_back_4 : decode cX8_back 4 = .ok (.invokestatic 86, 3) := by decide +kernel
theorem dX8_back_7 : decode cX8_back 7 = .ok (.ifCond .ne 6, 3) := by decide +kernel
theorem dX8_back_10 : decode cX8_back 10 = .ok (.bipush (-2), 2) := by decide +kernel
theorem dX8_back_12 : decode cX8_back 12 = .ok (.ireturn, 1) := by decide +kernel
theorem dX8_back_13 : decode cX8_back 13 = .ok (.aload_n 0, 1) := by decide +kernel
theorem dX8_back_14 : decode cX8_back 14 = .ok (.getfield 13, 3) := by decide +kernel
theorem dX8_back_17 : decode cX8_back 17 = .ok (.iload_n 1, 1) := by decide +kernel
theorem dX8_back_18 : decode cX8_back 18 = .ok (.baload, 1) := by decide +kernel
theorem dX8_back_19 : decode cX8_back 19 = .ok (.ifCond .ne 6, 3) := by decide +kernel
theorem dX8_back_22 : decode cX8_back 22 = .ok (.bipush (-4), 2) := by decide +kernel
theorem dX8_back_24 : decode cX8_back 24 = .ok (.ireturn, 1) := by decide +kernel
theorem dX8_back_25 : decode cX8_back 25 = .ok (.aload_n 0, 1) := by decide +kernel
theorem dX8_back_26 : decode cX8_back 26 = .ok (.sipush 480, 3) := by decide +kernel
theorem dX8_back_29 : decode cX8_back 29 = .ok (.bipush 48, 2) := by decide +kernel
theorem dX8_back_31 : decode cX8_back 31 = .ok (.iload_n 1, 1) := by decide +kernel
theorem dX8_back_32 : decode cX8_back 32 = .ok (.imul, 1) := by decide +kernel
theorem dX8_back_33 : decode cX8_back 33 = .ok (.iadd, 1) := by decide +kernel
theorem dX8_back_34 : decode cX8_back 34 = .ok (.iconst 0, 1) := by decide +kernel
theorem dX8_back_35 : decode cX8_back 35 = .ok (.invokevirtual 180, 3) := by decide +kernel
theorem dX8_back_38 : decode cX8_back 38 = .ok (.aload_n 0, 1) := by decide +kernel
theorem dX8_back_39 : decode cX8_back 39 = .ok (.iconst 0, 1) := by decide +kernel
theorem dX8_back_40 : decode cX8_back 40 = .ok (.putfield 184, 3) := by decide +kernel
theorem dX8_back_43 : decode cX8_back 43 = .ok (.aload_n 0, 1) := by decide +kernel
theorem dX8_back_44 : decode cX8_back 44 = .ok (.getfield 7, 3) := by decide +kernel
theorem dX8_back_47 : decode cX8_back 47 = .ok (.bipush 15, 2) := by decide +kernel
theorem dX8_back_49 : decode cX8_back 49 = .ok (.iaload, 1) := by decide +kernel
theorem dX8_back_50 : decode cX8_back 50 = .ok (.ireturn, 1) := by decide +kernel
set_option maxRecDepth 20000 in
theorem ggX8_layTried_X8_copyClub : GoodIn wsX8_layTried wsX8_copyClub := goodIn_r _ [5, 6, 37, 38, 39, 40, 41, 42, 43, 44, 45, 46, 47, 48, 49, 50, 51, 52, 53, 54, 55, 56, 57, 58, 59, 60, 61, 62, 63, 64, 65, 66, 67, 68, 69, 70, 71, 72, 73] (by decide +kernel) (by decide +kernel)
set_option maxRecDepth 20000 in
theorem gX8_layTried_X8_copyClub : GoodIn wsX8_layTried (wsV RX8 180 RX8 yX8_copyClub wsX8_copyClub) := goodIn_app (goodIn_of _ (by decide +kernel)) ggX8_layTried_X8_copyClub
set_option maxRecDepth 20000 in
theorem ggX8_layTried_X8_passes : GoodIn wsX8_layTried wsX8_passes := goodIn_r _ [10, 6, 11, 12, 13, 14, 15, 16, 4, 17, 18, 19, 20, 21, 22, 23, 24, 25, 26, 27, 28, 29, 30, 31, 32, 33, 34, 35, 36, 37, 38, 39, 40, 41, 42, 43, 44, 45, 46, 47, 48, 49, 50, 51, 52, 53, 54, 55, 56, 57, 58, 59, 60, 61, 62, 63, 64, 65, 66, 67, 68, 69, 70, 71, 72, 73] (by decide +kernel) (by decide +kernel)
set_option maxRecDepth 20000 in
theorem gX8_layTried_X8_passes : GoodIn wsX8_layTried (wsV RX8 245 RX8 yX8_passes wsX8_passes) := goodIn_app (goodIn_of _ (by decide +kernel)) ggX8_layTried_X8_passes
theorem dX8_layTried_0 : decode cX8_layTried 0 = .ok (.aload_n 0, 1) := by decide +kernel
theorem dX8_layTried_1 : decode cX8_layTried 1 = .ok (.iconst 0, 1) := by decide +kernel
theorem dX8_layTried_2 : decode cX8_layTried 2 = .ok (.sipush 576, 3) := by decide +kernel
theorem dX8_layTried_5 : decode cX8_layTried 5 = .ok (.invokevirtual 180, 3) := by decide +kernel
theorem dX8_layTried_8 : decode cX8_layTried 8 = .ok (.iconst 0, 1) := by decide +kernel
theorem dX8_layTried_9 : decode cX8_layTried 9 = .ok (.istore_n 2, 1) := by decide +kernel
theorem dX8_layTried_10 : decode cX8_layTried 10 = .ok (.iload_n 2, 1) := by decide +kernel
theorem dX8_layTried_11 : decode cX8_layTried 11 = .ok (.iload_n 1, 1) := by decide +kernel
theorem dX8_layTried_12 : decode cX8_layTried 12 = .ok (.if_icmp .ge 16, 3) := by decide +kernel
theorem dX8_layTried_15 : decode cX8_layTried 15 = .ok (.aload_n 0, 1) := by decide +kernel
theorem dX8_layTried_16 : decode cX8_layTried 16 = .ok (.sipush 576, 3) := by decide +kernel
theorem dX8_layTried_19 : decode cX8_layTried 19 = .ok (.invokevirtual 245, 3) := by decide +kernel
theorem dX8_layTried_22 : decode cX8_layTried 22 = .ok (.iinc 2 1, 3) := by decide +kernel
theorem dX8_layTried_25 : decode cX8_layTried 25 = .ok (.goto (-15), 3) := by decide +kernel
theorem dX8_layTried_28 : decode cX8_layTried 28 = .ok (.return_, 1) := by decide +kernel
set_option maxRecDepth 20000 in
theorem ggX8_ahead_X8_isMember : GoodIn wsX8_ahead wsX8_isMember := goodIn_r _ [7, 2, 8, 9, 6, 10, 49, 50, 51, 52, 53, 54, 55, 56, 57, 58, 59, 60, 61, 62, 63, 64, 65, 66, 67, 68, 69, 70, 71, 72, 73, 74, 75, 76, 77, 78, 79, 80, 81, 82, 83, 84, 85] (by decide +kernel) (by decide +kernel)
set_option maxRecDepth 20000 in
theorem gX8_ahead_X8_isMember : GoodIn wsX8_ahead (wsV RX8 200 RX8 yX8_isMember wsX8_isMember) := goodIn_app (goodIn_of _ (by decide +kernel)) ggX8_ahead_X8_isMember
set_option maxRecDepth 20000 in
theorem ggX8_ahead_X8_in : GoodIn wsX8_ahead wsX8_in := goodIn_r _ [10] (by decide +kernel) (by decide +kernel)
set_option maxRecDepth 20000 in
theorem gX8_ahead_X8_in : GoodIn wsX8_ahead (va_wsS RX8 86 yX8_in wsX8_in) := goodIn_app (goodIn_of _ (by decide +kernel)) ggX8_ahead_X8_in
set_option maxRecDepth 20000 in
theorem ggX8_ahead_X8_layTried : GoodIn wsX8_ahead wsX8_layTried := goodIn_r _ [14, 15, 16, 17, 6, 18, 2, 19, 20, 21, 22, 23, 24, 25, 26, 27, 28, 29, 30, 31, 32, 33, 34, 35, 36, 37, 38, 39, 40, 41, 42, 43, 44, 45, 46, 47, 48, 49, 50, 51, 52, 53, 54, 55, 56, 57, 58, 59, 60, 61, 62, 63, 64, 65, 66, 67, 68, 69, 70, 71, 72, 73, 74, 75, 76, 77, 78, 79, 80, 81, 82, 83, 84, 85] (by decide +kernel) (by decide +kernel)
set_option maxRecDepth 20000 in
theorem gX8_ahead_X8_layTried : GoodIn wsX8_ahead (wsV RX8 250 RX8 yX8_layTried wsX8_layTried) := goodIn_app (goodIn_of _ (by decide +kernel)) ggX8_ahead_X8_layTried
theorem dX8_ahead_0 : decode cX8_ahead 0 = .ok (.aload_n 0, 1) := by decide +kernel
theorem dX8_ahead_1 : decode cX8_ahead 1 = .ok (.iload_n 1, 1) := by decide +kernel
theorem dX8_ahead_2 : decode cX8_ahead 2 = .ok (.invokevirtual 200, 3) := by decide +kernel
theorem dX8_ahead_5 : decode cX8_ahead 5 = .ok (.ifCond .ne 6, 3) := by decide +kernel
theorem dX8_ahead_8 : decode cX8_ahead 8 = .ok (.bipush (-2), 2) := by decide +kernel
theorem dX8_ahead_10 : decode cX8_ahead 10 = .ok (.ireturn, 1) := by decide +kernel
theorem dX8_ahead_11 : decode cX8_ahead 11 = .ok (.iload_n 2, 1) := by decide +kernel
theorem dX8_ahead_12 : decode cX8_ahead 12 = .ok (.i2l, 1) := by decide +kernel
theorem dX8_ahead_13 : decode cX8_ahead 13 = .ok (.lconst 0, 1) := by decide +kernel
theorem dX8_ahead_14 : decode cX8_ahead 14 = .ok (.ldc2_w 248, 3) := by decide +kernel
theorem dX8_ahead_17 : decode cX8_ahead 17 = .ok (.invokestatic 86, 3) := by decide +kernel
theorem dX8_ahead_20 : decode cX8_ahead 20 = .ok (.ifCond .ne 6, 3) := by decide +kernel
theorem dX8_ahead_23 : decode cX8_ahead 23 = .ok (.bipush (-3), 2) := by decide +kernel
theorem dX8_ahead_25 : decode cX8_ahead 25 = .ok (.ireturn, 1) := by decide +kernel
theorem dX8_ahead_26 : decode cX8_ahead 26 = .ok (.aload_n 0, 1) := by decide +kernel
theorem dX8_ahead_27 : decode cX8_ahead 27 = .ok (.iload_n 2, 1) := by decide +kernel
theorem dX8_ahead_28 : decode cX8_ahead 28 = .ok (.invokevirtual 250, 3) := by decide +kernel
theorem dX8_ahead_31 : decode cX8_ahead 31 = .ok (.aload_n 0, 1) := by decide +kernel
theorem dX8_ahead_32 : decode cX8_ahead 32 = .ok (.getfield 7, 3) := by decide +kernel
theorem dX8_ahead_35 : decode cX8_ahead 35 = .ok (.sipush 576, 3) := by decide +kernel
theorem dX8_ahead_38 : decode cX8_ahead 38 = .ok (.iload_n 1, 1) := by decide +kernel
theorem dX8_ahead_39 : decode cX8_ahead 39 = .ok (.iadd, 1) := by decide +kernel
theorem dX8_ahead_40 : decode cX8_ahead 40 = .ok (.iaload, 1) := by decide +kernel
theorem dX8_ahead_41 : decode cX8_ahead 41 = .ok (.ireturn, 1) := by decide +kernel
set_option maxRecDepth 20000 in
theorem ggX8_gone_X8_isMember : GoodIn wsX8_gone wsX8_isMember := goodIn_r _ [6, 1, 7, 8, 5, 9, 52, 53, 54, 55, 56, 57, 58, 59, 60, 61, 62, 63, 64, 65, 66, 67, 68, 69, 70, 71, 72, 73, 74, 75, 76, 77, 78, 79, 80, 81, 82, 83, 84, 85, 86, 87, 88] (by decide +kernel) (by decide +kernel)
set_option maxRecDepth 20000 in
theorem gX8_gone_X8_isMember : GoodIn wsX8_gone (wsV RX8 200 RX8 yX8_isMember wsX8_isMember) := goodIn_app (goodIn_of _ (by decide +kernel)) ggX8_gone_X8_isMember
set_option maxRecDepth 20000 in
theorem ggX8_gone_X8_isFact : GoodIn wsX8_gone wsX8_isFact := goodIn_r _ [13, 1, 7, 8, 5, 9, 52, 53, 54, 55, 56, 57, 58, 59, 60, 61, 62, 63, 64, 65, 66, 67, 68, 69, 70, 71, 72, 73, 74, 75, 76, 77, 78, 79, 80, 81, 82, 83, 84, 85, 86, 87, 88] (by decide +kernel) (by decide +kernel)
set_option maxRecDepth 20000 in
theorem gX8_gone_X8_isFact : GoodIn wsX8_gone (wsV RX8 190 RX8 yX8_isFact wsX8_isFact) := goodIn_app (goodIn_of _ (by decide +kernel)) ggX8_gone_X8_isFact
set_option maxRecDepth 20000 in
theorem ggX8_gone_X8_layTried : GoodIn wsX8_gone wsX8_layTried := goodIn_r _ [17, 18, 19, 20, 5, 21, 1, 22, 23, 24, 25, 26, 27, 28, 29, 30, 31, 32, 33, 34, 35, 36, 37, 38, 39, 40, 41, 42, 43, 44, 45, 46, 47, 48, 49, 50, 51, 52, 53, 54, 55, 56, 57, 58, 59, 60, 61, 62, 63, 64, 65, 66, 67, 68, 69, 70, 71, 72, 73, 74, 75, 76, 77, 78, 79, 80, 81, 82, 83, 84, 85, 86, 87, 88] (by decide +kernel) (by decide +kernel)
set_option maxRecDepth 20000 in
theorem gX8_gone_X8_layTried : GoodIn wsX8_gone (wsV RX8 250 RX8 yX8_layTried wsX8_layTried) := goodIn_app (goodIn_of _ (by decide +kernel)) ggX8_gone_X8_layTried
set_option maxRecDepth 20000 in
theorem ggX8_gone_X8_has : GoodIn wsX8_gone wsX8_has := goodIn_r _ [47] (by decide +kernel) (by decide +kernel)
set_option maxRecDepth 20000 in
theorem gX8_gone_X8_has : GoodIn wsX8_gone (va_wsS RX8 121 yX8_has wsX8_has) := goodIn_app (goodIn_of _ (by decide +kernel)) ggX8_gone_X8_has
set_option maxRecDepth 20000 in
theorem ggX8_gone_X8_passes : GoodIn wsX8_gone wsX8_passes := goodIn_r _ [25, 1, 26, 27, 28, 29, 30, 31, 5, 32, 33, 34, 35, 36, 37, 38, 39, 40, 41, 42, 43, 44, 45, 46, 47, 48, 49, 50, 51, 52, 53, 54, 55, 56, 57, 58, 59, 60, 61, 62, 63, 64, 65, 66, 67, 68, 69, 70, 71, 72, 73, 74, 75, 76, 77, 78, 79, 80, 81, 82, 83, 84, 85, 86, 87, 88] (by decide +kernel) (by decide +kernel)
set_option maxRecDepth 20000 in
theorem gX8_gone_X8_passes : GoodIn wsX8_gone (wsV RX8 245 RX8 yX8_passes wsX8_passes) := goodIn_app (goodIn_of _ (by decide +kernel)) ggX8_gone_X8_passes
theorem dX8_gone_0 : decode cX8_gone 0 = .ok (.aload_n 0, 1) := by decide +kernel
theorem dX8_gone_1 : decode cX8_gone 1 = .ok (.iload_n 1, 1) := by decide +kernel
theorem dX8_gone_2 : decode cX8_gone 2 = .ok (.invokevirtual 200, 3) := by decide +kernel
theorem dX8_gone_5 : decode cX8_gone 5 = .ok (.ifCond .eq 11, 3) := by decide +kernel
theorem dX8_gone_8 : decode cX8_gone 8 = .ok (.aload_n 0, 1) := by decide +kernel
theorem dX8_gone_9 : decode cX8_gone 9 = .ok (.iload_n 2, 1) := by decide +kernel
theorem dX8_gone_10 : decode cX8_gone 10 = .ok (.invokevirtual 190, 3) := by decide +kernel
theorem dX8_gone_13 : decode cX8_gone 13 = .ok (.ifCond .ne 6, 3) := by decide +kernel
theorem dX8_gone_16 : decode cX8_gone 16 = .ok (.bipush (-2), 2) := by decide +kernel
theorem dX8_gone_18 : decode cX8_gone 18 = .ok (.ireturn, 1) := by decide +kernel
theorem dX8_gone_19 : decode cX8_gone 19 = .ok (.aload_n 0, 1) := by decide +kernel
theorem dX8_gone_20 : decode cX8_gone 20 = .ok (.iconst 0, 1) := by decide +kernel
theorem dX8_gone_21 : decode cX8_gone 21 = .ok (.invokevirtual 250, 3) := by decide +kernel
theorem dX8_gone_24 : decode cX8_gone 24 = .ok (.iconst 0, 1) := by decide +kernel
theorem dX8_gone_25 : decode cX8_gone 25 = .ok (.istore_n 3, 1) := by decide +kernel
theorem dX8_gone_26 : decode cX8_gone 26 = .ok (.iload_n 3, 1) := by decide +kernel
theorem dX8_gone_27 : decode cX8_gone 27 = .ok (.bipush 41, 2) := by decide +kernel
theorem dX8_gone_29 : decode cX8_gone 29 = .ok (.if_icmp .ge 35, 3) := by decide +kernel
theorem dX8_gone_32 : decode cX8_gone 32 = .ok (.aload_n 0, 1) := by decide +kernel
theorem dX8_gone_33 : decode cX8_gone 33 = .ok (.getfield 7, 3) := by decide +kernel
theorem dX8_gone_36 : decode cX8_gone 36 = .ok (.sipush 576, 3) := by decide +kernel
theorem dX8_gone_39 : decode cX8_gone 39 = .ok (.iload_n 1, 1) := by decide +kernel
theorem dX8_gone_40 : decode cX8_gone 40 = .ok (.iadd, 1) := by decide +kernel
theorem dX8_gone_41 : decode cX8_gone 41 = .ok (.iaload, 1) := by decide +kernel
theorem dX8_gone_42 : decode cX8_gone 42 = .ok (.iload_n 2, 1) := by decide +kernel
theorem dX8_gone_43 : decode cX8_gone 43 = .ok (.invokestatic 121, 3) := by decide +kernel
theorem dX8_gone_46 : decode cX8_gone 46 = .ok (.ifCond .ne 5, 3) := by decide +kernel
theorem dX8_gone_49 : decode cX8_gone 49 = .ok (.iload_n 3, 1) := by decide +kernel
theorem dX8_gone_50 : decode cX8_gone 50 = .ok (.ireturn, 1) := by decide +kernel
theorem dX8_gone_51 : decode cX8_gone 51 = .ok (.aload_n 0, 1) := by decide +kernel
theorem dX8_gone_52 : decode cX8_gone 52 = .ok (.sipush 576, 3) := by decide +kernel
theorem dX8_gone_55 : decode cX8_gone 55 = .ok (.invokevirtual 245, 3) := by decide +kernel
theorem dX8_gone_58 : decode cX8_gone 58 = .ok (.iinc 3 1, 3) := by decide +kernel
theorem dX8_gone_61 : decode cX8_gone 61 = .ok (.goto (-35), 3) := by decide +kernel
theorem dX8_gone_64 : decode cX8_gone 64 = .ok (.iconst (-1), 1) := by decide +kernel
theorem dX8_gone_65 : decode cX8_gone 65 = .ok (.ireturn, 1) := by decide +kernel
theorem dX8_boy_0 : decode cX8_boy 0 = .ok (.iconst 0, 1) := by decide +kernel
theorem dX8_boy_1 : decode cX8_boy 1 = .ok (.istore_n 1, 1) := by decide +kernel
theorem dX8_boy_2 : decode cX8_boy 2 = .ok (.iconst 0, 1) := by decide +kernel
theorem dX8_boy_3 : decode cX8_boy 3 = .ok (.istore_n 2, 1) := by decide +kernel
theorem dX8_boy_4 : decode cX8_boy 4 = .ok (.iload_n 2, 1) := by decide +kernel
theorem dX8_boy_5 : decode cX8_boy 5 = .ok (.aload_n 0, 1) := by decide +kernel
theorem dX8_boy_6 : decode cX8_boy 6 = .ok (.getfield 7, 3) := by decide +kernel
theorem dX8_boy_9 : decode cX8_boy 9 = .ok (.bipush 23, 2) := by decide +kernel
theorem dX8_boy_11 : decode cX8_boy 11 = .ok (.iaload, 1) := by decide +kernel
theorem dX8_boy_12 : decode cX8_boy 12 = .ok (.if_icmp .ge 41, 3) := by decide +kernel
theorem dX8_boy_15 : decode cX8_boy 15 = .ok (.iload_n 1, 1) := by decide +kernel
theorem dX8_boy_16 : decode cX8_boy 16 = .ok (.aload_n 0, 1) := by decide +kernel
theorem dX8_boy_17 : decode cX8_boy 17 = .ok (.getfield 7, 3) := by decide +kernel
theorem dX8_boy_20 : decode cX8_boy 20 = .ok (.bipush 36, 2) := by decide +kernel
theorem dX8_boy_22 : decode cX8_boy 22 = .ok (.iload_n 2, 1) := by decide +kernel
theorem dX8_boy_23 : decode cX8_boy 23 = .ok (.iadd, 1) := by decide +kernel
theorem dX8_boy_24 : decode cX8_boy 24 = .ok (.iaload, 1) := by decide +kernel
theorem dX8_boy_25 : decode cX8_boy 25 = .ok (.aload_n 0, 1) := by decide +kernel
theorem dX8_boy_26 : decode cX8_boy 26 = .ok (.getfield 7, 3) := by decide +kernel
theorem dX8_boy_29 : decode cX8_boy 29 = .ok (.bipush 14, 2) := by decide +kernel
theorem dX8_boy_31 : decode cX8_boy 31 = .ok (.iaload, 1) := by decide +kernel
theorem dX8_boy_32 : decode cX8_boy 32 = .ok (.iconst (-1), 1) := by decide +kernel
theorem dX8_boy_33 : decode cX8_boy 33 = .ok (.ixor, 1) := by decide +kernel
theorem dX8_boy_34 : decode cX8_boy 34 = .ok (.iand, 1) := by decide +kernel
theorem dX8_boy_35 : decode cX8_boy 35 = .ok (.ifCond .ne 9, 3) := by decide +kernel
theorem dX8_boy_38 : decode cX8_boy 38 = .ok (.iconst 1, 1) := by decide +kernel
theorem dX8_boy_39 : decode cX8_boy 39 = .ok (.iload_n 2, 1) := by decide +kernel
theorem dX8_boy_40 : decode cX8_boy 40 = .ok (.ishl, 1) := by decide +kernel
theorem dX8_boy_41 : decode cX8_boy 41 = .ok (.goto 4, 3) := by decide +kernel
theorem dX8_boy_44 : decode cX8_boy 44 = .ok (.iconst 0, 1) := by decide +kernel
theorem dX8_boy_45 : decode cX8_boy 45 = .ok (.ior, 1) := by decide +kernel
theorem dX8_boy_46 : decode cX8_boy 46 = .ok (.istore_n 1, 1) := by decide +kernel
theorem dX8_boy_47 : decode cX8_boy 47 = .ok (.iinc 2 1, 3) := by decide +kernel
theorem dX8_boy_50 : decode cX8_boy 50 = .ok (.goto (-46), 3) := by decide +kernel
theorem dX8_boy_53 : decode cX8_boy 53 = .ok (.iload_n 1, 1) := by decide +kernel
theorem dX8_boy_54 : decode cX8_boy 54 = .ok (.ireturn, 1) := by decide +kernel
theorem dX8_isSo_0 : decode cX8_isSo 0 = .ok (.iload_n 0, 1) := by decide +kernel
theorem dX8_isSo_1 : decode cX8_isSo 1 = .ok (.iload_n 1, 1) := by decide +kernel
theorem dX8_isSo_2 : decode cX8_isSo 2 = .ok (.iand, 1) := by decide +kernel
theorem dX8_isSo_3 : decode cX8_isSo 3 = .ok (.ifCond .ne 15, 3) := by decide +kernel
theorem dX8_isSo_6 : decode cX8_isSo 6 = .ok (.iload_n 2, 1) := by decide +kernel
theorem dX8_isSo_7 : decode cX8_isSo 7 = .ok (.iload_n 0, 1) := by decide +kernel
theorem dX8_isSo_8 : decode cX8_isSo 8 = .ok (.iconst (-1), 1) := by decide +kernel
theorem dX8_isSo_9 : decode cX8_isSo 9 = .ok (.ixor, 1) := by decide +kernel
theorem dX8_isSo_10 : decode cX8_isSo 10 = .ok (.iand, 1) := by decide +kernel
theorem dX8_isSo_11 : decode cX8_isSo 11 = .ok (.ifCond .ne 7, 3) := by decide +kernel
theorem dX8_isSo_14 : decode cX8_isSo 14 = .ok (.iconst 1, 1) := by decide +kernel
theorem dX8_isSo_15 : decode cX8_isSo 15 = .ok (.goto 4, 3) := by decide +kernel
theorem dX8_isSo_18 : decode cX8_isSo 18 = .ok (.iconst 0, 1) := by decide +kernel
theorem dX8_isSo_19 : decode cX8_isSo 19 = .ok (.ireturn, 1) := by decide +kernel
set_option maxRecDepth 20000 in
theorem ggX8_minutesOf_X8_isSo : GoodIn wsX8_minutesOf wsX8_isSo := goodIn_r _ [8] (by decide +kernel) (by decide +kernel)
set_option maxRecDepth 20000 in
theorem gX8_minutesOf_X8_isSo : GoodIn wsX8_minutesOf (va_wsS RX8 253 yX8_isSo wsX8_isSo) := goodIn_app (goodIn_of _ (by decide +kernel)) ggX8_minutesOf_X8_isSo
set_option maxRecDepth 20000 in
theorem ggX8_minutesOf_X8_sucks : GoodIn wsX8_minutesOf wsX8_sucks := goodIn_r _ [12, 1, 13, 3, 14, 15, 7, 16, 17, 18, 19, 20, 21, 22, 23, 24, 25, 26, 27, 28, 29, 30, 31, 32, 2, 33, 34, 35, 36, 37, 38, 39, 40, 41, 42, 43, 44, 45, 46, 47, 48, 49, 50, 51, 52, 53, 54, 55, 56, 57, 58, 59, 60, 61, 62, 63, 64, 65, 66, 67, 68, 69] (by decide +kernel) (by decide +kernel)
set_option maxRecDepth 20000 in
theorem gX8_minutesOf_X8_sucks : GoodIn wsX8_minutesOf (wsV RX8 236 RX8 yX8_sucks wsX8_sucks) := goodIn_app (goodIn_of _ (by decide +kernel)) ggX8_minutesOf_X8_sucks
theorem dX8_minutesOf_0 : decode cX8_minutesOf 0 = .ok (.aload_n 0, 1) := by decide +kernel
theorem dX8_minutesOf_1 : decode cX8_minutesOf 1 = .ok (.iconst 0, 1) := by decide +kernel
theorem dX8_minutesOf_2 : decode cX8_minutesOf 2 = .ok (.putfield 217, 3) := by decide +kernel
theorem dX8_minutesOf_5 : decode cX8_minutesOf 5 = .ok (.aload_n 0, 1) := by decide +kernel
theorem dX8_minutesOf_6 : decode cX8_minutesOf 6 = .ok (.aload_n 0, 1) := by decide +kernel
theorem dX8_minutesOf_7 : decode cX8_minutesOf 7 = .ok (.getfield 7, 3) := by decide +kernel
theorem dX8_minutesOf_10 : decode cX8_minutesOf 10 = .ok (.iconst 0, 1) := by decide +kernel
theorem dX8_minutesOf_11 : decode cX8_minutesOf 11 = .ok (.iload_n 1, 1) := by decide +kernel
theorem dX8_minutesOf_12 : decode cX8_minutesOf 12 = .ok (.iadd, 1) := by decide +kernel
theorem dX8_minutesOf_13 : decode cX8_minutesOf 13 = .ok (.iaload, 1) := by decide +kernel
theorem dX8_minutesOf_14 : decode cX8_minutesOf 14 = .ok (.putfield 226, 3) := by decide +kernel
theorem dX8_minutesOf_17 : decode cX8_minutesOf 17 = .ok (.iconst 0, 1) := by decide +kernel
theorem dX8_minutesOf_18 : decode cX8_minutesOf 18 = .ok (.istore 5, 2) := by decide +kernel
theorem dX8_minutesOf_20 : decode cX8_minutesOf 20 = .ok (.iload 5, 2) := by decide +kernel
theorem dX8_minutesOf_22 : decode cX8_minutesOf 22 = .ok (.bipush 21, 2) := by decide +kernel
theorem dX8_minutesOf_24 : decode cX8_minutesOf 24 = .ok (.if_icmp .ge 30, 3) := by decide +kernel
theorem dX8_minutesOf_27 : decode cX8_minutesOf 27 = .ok (.aload_n 0, 1) := by decide +kernel
theorem dX8_minutesOf_28 : decode cX8_minutesOf 28 = .ok (.getfield 226, 3) := by decide +kernel
theorem dX8_minutesOf_31 : decode cX8_minutesOf 31 = .ok (.iload_n 3, 1) := by decide +kernel
theorem dX8_minutesOf_32 : decode cX8_minutesOf 32 = .ok (.iload 4, 2) := by decide +kernel
theorem dX8_minutesOf_34 : decode cX8_minutesOf 34 = .ok (.invokestatic 253, 3) := by decide +kernel
theorem dX8_minutesOf_37 : decode cX8_minutesOf 37 = .ok (.ifCond .eq 6, 3) := by decide +kernel
theorem dX8_minutesOf_40 : decode cX8_minutesOf 40 = .ok (.iload 5, 2) := by decide +kernel
theorem dX8_minutesOf_42 : decode cX8_minutesOf 42 = .ok (.ireturn, 1) := by decide +kernel
theorem dX8_minutesOf_43 : decode cX8_minutesOf 43 = .ok (.aload_n 0, 1) := by decide +kernel
theorem dX8_minutesOf_44 : decode cX8_minutesOf 44 = .ok (.iload_n 2, 1) := by decide +kernel
theorem dX8_minutesOf_45 : decode cX8_minutesOf 45 = .ok (.invokevirtual 236, 3) := by decide +kernel
theorem dX8_minutesOf_48 : decode cX8_minutesOf 48 = .ok (.iinc 5 1, 3) := by decide +kernel
theorem dX8_minutesOf_51 : decode cX8_minutesOf 51 = .ok (.goto (-31), 3) := by decide +kernel
theorem dX8_minutesOf_54 : decode cX8_minutesOf 54 = .ok (.ldc_w 257, 3) := by decide +kernel
theorem dX8_minutesOf_57 : decode cX8_minutesOf 57 = .ok (.ireturn, 1) := by decide +kernel
set_option maxRecDepth 20000 in
theorem ggX8_soonest_X8_isMember : GoodIn wsX8_soonest wsX8_isMember := goodIn_r _ [6, 7, 8, 9, 5, 10, 48, 49, 50, 51, 52, 53, 54, 55, 56, 57, 58, 59, 60, 61, 62, 63, 64, 65, 66, 67, 68, 69, 70, 71, 72, 73, 74, 75, 76, 77, 78, 79, 80, 81, 82, 83, 84] (by decide +kernel) (by decide +kernel)
set_option maxRecDepth 20000 in
theorem gX8_soonest_X8_isMember : GoodIn wsX8_soonest (wsV RX8 200 RX8 yX8_isMember wsX8_isMember) := goodIn_app (goodIn_of _ (by decide +kernel)) ggX8_soonest_X8_isMember
set_option maxRecDepth 20000 in
theorem ggX8_soonest_X8_areFacts : GoodIn wsX8_soonest wsX8_areFacts := goodIn_r _ [14, 7, 8, 9, 5, 10, 48, 49, 50, 51, 52, 53, 54, 55, 56, 57, 58, 59, 60, 61, 62, 63, 64, 65, 66, 67, 68, 69, 70, 71, 72, 73, 74, 75, 76, 77, 78, 79, 80, 81, 82, 83, 84] (by decide +kernel) (by decide +kernel)
set_option maxRecDepth 20000 in
theorem gX8_soonest_X8_areFacts : GoodIn wsX8_soonest (wsV RX8 258 RX8 yX8_areFacts wsX8_areFacts) := goodIn_app (goodIn_of _ (by decide +kernel)) ggX8_soonest_X8_areFacts
set_option maxRecDepth 20000 in
theorem ggX8_soonest_X8_in : GoodIn wsX8_soonest wsX8_in := goodIn_r _ [10] (by decide +kernel) (by decide +kernel)
set_option maxRecDepth 20000 in
theorem gX8_soonest_X8_in : GoodIn wsX8_soonest (va_wsS RX8 86 yX8_in wsX8_in) := goodIn_app (goodIn_of _ (by decide +kernel)) ggX8_soonest_X8_in
set_option maxRecDepth 20000 in
theorem ggX8_soonest_X8_minutesOf : GoodIn wsX8_soonest wsX8_minutesOf := goodIn_r _ [18, 19, 7, 20, 1, 21, 22, 5, 23, 24, 25, 26, 27, 28, 29, 30, 31, 32, 33, 34, 35, 36, 37, 38, 39, 40, 41, 42, 43, 44, 45, 46, 47, 48, 49, 50, 51, 52, 53, 54, 55, 56, 57, 58, 59, 60, 61, 62, 63, 64, 65, 66, 67, 68, 69, 70, 71, 72, 73, 74, 75, 76, 77, 78, 79, 80, 81, 82, 83, 84] (by decide +kernel) (by decide +kernel)
set_option maxRecDepth 20000 in
theorem gX8_soonest_X8_minutesOf : GoodIn wsX8_soonest (wsV RX8 261 RX8 yX8_minutesOf wsX8_minutesOf) := goodIn_app (goodIn_of _ (by decide +kernel)) ggX8_soonest_X8_minutesOf
theorem dX8_soonest_0 : decode cX8_soonest 0 = .ok (.aload_n 0, 1) := by decide +kernel
theorem dX8_soonest_1 : decode cX8_soonest 1 = .ok (.iload_n 1, 1) := by decide +kernel
theorem dX8_soonest_2 : decode cX8_soonest 2 = .ok (.invokevirtual 200, 3) := by decide +kernel
theorem dX8_soonest_5 : decode cX8_soonest 5 = .ok (.ifCond .eq 19, 3) := by decide +kernel
theorem dX8_soonest_8 : decode cX8_soonest 8 = .ok (.aload_n 0, 1) := by decide +kernel
theorem dX8_soonest_9 : decode cX8_soonest 9 = .ok (.iload_n 2, 1) := by decide +kernel
theorem dX8_soonest_10 : decode cX8_soonest 10 = .ok (.invokevirtual 258, 3) := by decide +kernel
theorem dX8_soonest_13 : decode cX8_soonest 13 = .ok (.ifCond .eq 11, 3) := by decide +kernel
theorem dX8_soonest_16 : decode cX8_soonest 16 = .ok (.aload_n 0, 1) := by decide +kernel
theorem dX8_soonest_17 : decode cX8_soonest 17 = .ok (.iload_n 3, 1) := by decide +kernel
theorem dX8_soonest_18 : decode cX8_soonest 18 = .ok (.invokevirtual 258, 3) := by decide +kernel
theorem dX8_soonest_21 : decode cX8_soonest 21 = .ok (.ifCond .ne 6, 3) := by decide +kernel
theorem dX8_soonest_24 : decode cX8_soonest 24 = .ok (.bipush (-2), 2) := by decide +kernel
theorem dX8_soonest_26 : decode cX8_soonest 26 = .ok (.ireturn, 1) := by decide +kernel
theorem dX8_soonest_27 : decode cX8_soonest 27 = .ok (.iload 4, 2) := by decide +kernel
theorem dX8_soonest_29 : decode cX8_soonest 29 = .ok (.i2l, 1) := by decide +kernel
theorem dX8_soonest_30 : decode cX8_soonest 30 = .ok (.lconst 0, 1) := by decide +kernel
theorem dX8_soonest_31 : decode cX8_soonest 31 = .ok (.lconst 1, 1) := by decide +kernel
theorem dX8_soonest_32 : decode cX8_soonest 32 = .ok (.invokestatic 86, 3) := by decide +kernel
theorem dX8_soonest_35 : decode cX8_soonest 35 = .ok (.ifCond .ne 6, 3) := by decide +kernel
theorem dX8_soonest_38 : decode cX8_soonest 38 = .ok (.bipush (-3), 2) := by decide +kernel
theorem dX8_soonest_40 : decode cX8_soonest 40 = .ok (.ireturn, 1) := by decide +kernel
theorem dX8_soonest_41 : decode cX8_soonest 41 = .ok (.iconst (-1), 1) := by decide +kernel
theorem dX8_soonest_42 : decode cX8_soonest 42 = .ok (.istore 5, 2) := by decide +kernel
theorem dX8_soonest_44 : decode cX8_soonest 44 = .ok (.ldc_w 257, 3) := by decide +kernel
theorem dX8_soonest_47 : decode cX8_soonest 47 = .ok (.istore 6, 2) := by decide +kernel
theorem dX8_soonest_49 : decode cX8_soonest 49 = .ok (.iconst 0, 1) := by decide +kernel
theorem dX8_soonest_50 : decode cX8_soonest 50 = .ok (.istore 7, 2) := by decide +kernel
theorem dX8_soonest_52 : decode cX8_soonest 52 = .ok (.iload 7, 2) := by decide +kernel
theorem dX8_soonest_54 : decode cX8_soonest 54 = .ok (.iconst 5, 1) := by decide +kernel
theorem dX8_soonest_55 : decode cX8_soonest 55 = .ok (.if_icmp .ge 52, 3) := by decide +kernel
theorem dX8_soonest_58 : decode cX8_soonest 58 = .ok (.aload_n 0, 1) := by decide +kernel
theorem dX8_soonest_59 : decode cX8_soonest 59 = .ok (.iload_n 1, 1) := by decide +kernel
theorem dX8_soonest_60 : decode cX8_soonest 60 = .ok (.iload 7, 2) := by decide +kernel
theorem dX8_soonest_62 : decode cX8_soonest 62 = .ok (.iload_n 2, 1) := by decide +kernel
theorem dX8_soonest_63 : decode cX8_soonest 63 = .ok (.iload_n 3, 1) := by decide +kernel
theorem dX8_soonest_64 : decode cX8_soonest 64 = .ok (.invokevirtual 261, 3) := by decide +kernel
theorem dX8_soonest_67 : decode cX8_soonest 67 = .ok (.istore 8, 2) := by decide +kernel
theorem dX8_soonest_69 : decode cX8_soonest 69 = .ok (.iload 8, 2) := by decide +kernel
theorem dX8_soonest_71 : decode cX8_soonest 71 = .ok (.iload 6, 2) := by decide +kernel
theorem dX8_soonest_73 : decode cX8_soonest 73 = .ok (.if_icmp .ge 8, 3) := by decide +kernel
theorem dX8_soonest_76 : decode cX8_soonest 76 = .ok (.iload 7, 2) := by decide +kernel
theorem dX8_soonest_78 : decode cX8_soonest 78 = .ok (.goto 5, 3) := by decide +kernel
theorem dX8_soonest_81 : decode cX8_soonest 81 = .ok (.iload 5, 2) := by decide +kernel
theorem dX8_soonest_83 : decode cX8_soonest 83 = .ok (.istore 5, 2) := by decide +kernel
theorem dX8_soonest_85 : decode cX8_soonest 85 = .ok (.iload 8, 2) := by decide +kernel
theorem dX8_soonest_87 : decode cX8_soonest 87 = .ok (.iload 6, 2) := by decide +kernel
theorem dX8_soonest_89 : decode cX8_soonest 89 = .ok (.if_icmp .ge 8, 3) := by decide +kernel
theorem dX8_soonest_92 : decode cX8_soonest 92 = .ok (.iload 8, 2) := by decide +kernel
theorem dX8_soonest_94 : decode cX8_soonest 94 = .ok (.goto 5, 3) := by decide +kernel
theorem dX8_soonest_97 : decode cX8_soonest 97 = .ok (.iload 6, 2) := by decide +kernel
theorem dX8_soonest_99 : decode cX8_soonest 99 = .ok (.istore 6, 2) := by decide +kernel
theorem dX8_soonest_101 : decode cX8_soonest 101 = .ok (.iinc 7 1, 3) := by decide +kernel
theorem dX8_soonest_104 : decode cX8_soonest 104 = .ok (.goto (-52), 3) := by decide +kernel
theorem dX8_soonest_107 : decode cX8_soonest 107 = .ok (.iload 5, 2) := by decide +kernel
theorem dX8_soonest_109 : decode cX8_soonest 109 = .ok (.iconst (-1), 1) := by decide +kernel
theorem dX8_soonest_110 : decode cX8_soonest 110 = .ok (.if_icmp .ne 7, 3) := by decide +kernel
theorem dX8_soonest_113 : decode cX8_soonest 113 = .ok (.iconst (-1), 1) := by decide +kernel
theorem dX8_soonest_114 : decode cX8_soonest 114 = .ok (.goto 15, 3) := by decide +kernel
theorem dX8_soonest_117 : decode cX8_soonest 117 = .ok (.iload 4, 2) := by decide +kernel
theorem dX8_soonest_119 : decode cX8_soonest 119 = .ok (.ifCond .ne 8, 3) := by decide +kernel
theorem dX8_soonest_122 : decode cX8_soonest 122 = .ok (.iload 6, 2) := by decide +kernel
theorem dX8_soonest_124 : decode cX8_soonest 124 = .ok (.goto 5, 3) := by decide +kernel
theorem dX8_soonest_127 : decode cX8_soonest 127 = .ok (.iload 5, 2) := by decide +kernel
theorem dX8_soonest_129 : decode cX8_soonest 129 = .ok (.ireturn, 1) := by decide +kernel
set_option maxRecDepth 20000 in
theorem ggX8_isSoBy_X8_sucks : GoodIn wsX8_isSoBy wsX8_sucks := goodIn_r _ [8, 3, 9, 2, 10, 11, 7, 12, 13, 14, 15, 16, 17, 18, 19, 20, 21, 22, 23, 24, 25, 26, 27, 28, 1, 32, 33, 34, 35, 36, 37, 38, 39, 40, 41, 42, 43, 44, 45, 46, 47, 48, 49, 50, 51, 52, 53, 54, 55, 56, 57, 58, 59, 60, 61, 62, 63, 64, 65, 66, 67, 68] (by decide +kernel) (by decide +kernel)
set_option maxRecDepth 20000 in
theorem gX8_isSoBy_X8_sucks : GoodIn wsX8_isSoBy (wsV RX8 236 RX8 yX8_sucks wsX8_sucks) := goodIn_app (goodIn_of _ (by decide +kernel)) ggX8_isSoBy_X8_sucks
set_option maxRecDepth 20000 in
theorem ggX8_isSoBy_X8_isSo : GoodIn wsX8_isSoBy wsX8_isSo := goodIn_r _ [31] (by decide +kernel) (by decide +kernel)
set_option maxRecDepth 20000 in
theorem gX8_isSoBy_X8_isSo : GoodIn wsX8_isSoBy (va_wsS RX8 253 yX8_isSo wsX8_isSo) := goodIn_app (goodIn_of _ (by decide +kernel)) ggX8_isSoBy_X8_isSo
theorem dX8_isSoBy_0 : decode cX8_isSoBy 0 = .ok (.aload_n 0, 1) := by decide +kernel
theorem dX8_isSoBy_1 : decode cX8_isSoBy 1 = .ok (.aload_n 0, 1) := by decide +kernel
theorem dX8_isSoBy_2 : decode cX8_isSoBy 2 = .ok (.getfield 7, 3) := by decide +kernel
theorem dX8_isSoBy_5 : decode cX8_isSoBy 5 = .ok (.iconst 0, 1) := by decide +kernel
theorem dX8_isSoBy_6 : decode cX8_isSoBy 6 = .ok (.iload_n 1, 1) := by decide +kernel
theorem dX8_isSoBy_7 : decode cX8_isSoBy 7 = .ok (.iadd, 1) := by decide +kernel
theorem dX8_isSoBy_8 : decode cX8_isSoBy 8 = .ok (.iaload, 1) := by decide +kernel
theorem dX8_isSoBy_9 : decode cX8_isSoBy 9 = .ok (.putfield 226, 3) := by decide +kernel
theorem dX8_isSoBy_12 : decode cX8_isSoBy 12 = .ok (.iload_n 3, 1) := by decide +kernel
theorem dX8_isSoBy_13 : decode cX8_isSoBy 13 = .ok (.iconst 3, 1) := by decide +kernel
theorem dX8_isSoBy_14 : decode cX8_isSoBy 14 = .ok (.if_icmp .ne 8, 3) := by decide +kernel
theorem dX8_isSoBy_17 : decode cX8_isSoBy 17 = .ok (.bipush 25, 2) := by decide +kernel
theorem dX8_isSoBy_19 : decode cX8_isSoBy 19 = .ok (.goto 13, 3) := by decide +kernel
theorem dX8_isSoBy_22 : decode cX8_isSoBy 22 = .ok (.iload_n 3, 1) := by decide +kernel
theorem dX8_isSoBy_23 : decode cX8_isSoBy 23 = .ok (.iconst 2, 1) := by decide +kernel
theorem dX8_isSoBy_24 : decode cX8_isSoBy 24 = .ok (.if_icmp .ne 7, 3) := by decide +kernel
theorem dX8_isSoBy_27 : decode cX8_isSoBy 27 = .ok (.iconst 5, 1) := by decide +kernel
theorem dX8_isSoBy_28 : decode cX8_isSoBy 28 = .ok (.goto 4, 3) := by decide +kernel
theorem dX8_isSoBy_31 : decode cX8_isSoBy 31 = .ok (.iconst 1, 1) := by decide +kernel
theorem dX8_isSoBy_32 : decode cX8_isSoBy 32 = .ok (.istore 6, 2) := by decide +kernel
theorem dX8_isSoBy_34 : decode cX8_isSoBy 34 = .ok (.iconst 0, 1) := by decide +kernel
theorem dX8_isSoBy_35 : decode cX8_isSoBy 35 = .ok (.istore 7, 2) := by decide +kernel
theorem dX8_isSoBy_37 : decode cX8_isSoBy 37 = .ok (.iload 7, 2) := by decide +kernel
theorem dX8_isSoBy_39 : decode cX8_isSoBy 39 = .ok (.iload_n 3, 1) := by decide +kernel
theorem dX8_isSoBy_40 : decode cX8_isSoBy 40 = .ok (.if_icmp .ge 30, 3) := by decide +kernel
theorem dX8_isSoBy_43 : decode cX8_isSoBy 43 = .ok (.aload_n 0, 1) := by decide +kernel
theorem dX8_isSoBy_44 : decode cX8_isSoBy 44 = .ok (.iconst 0, 1) := by decide +kernel
theorem dX8_isSoBy_45 : decode cX8_isSoBy 45 = .ok (.putfield 217, 3) := by decide +kernel
theorem dX8_isSoBy_48 : decode cX8_isSoBy 48 = .ok (.aload_n 0, 1) := by decide +kernel
theorem dX8_isSoBy_49 : decode cX8_isSoBy 49 = .ok (.iload_n 2, 1) := by decide +kernel
theorem dX8_isSoBy_50 : decode cX8_isSoBy 50 = .ok (.iload 6, 2) := by decide +kernel
theorem dX8_isSoBy_52 : decode cX8_isSoBy 52 = .ok (.idiv, 1) := by decide +kernel
theorem dX8_isSoBy_53 : decode cX8_isSoBy 53 = .ok (.iconst 5, 1) := by decide +kernel
theorem dX8_isSoBy_54 : decode cX8_isSoBy 54 = .ok (.irem, 1) := by decide +kernel
theorem dX8_isSoBy_55 : decode cX8_isSoBy 55 = .ok (.invokevirtual 236, 3) := by decide +kernel
theorem dX8_isSoBy_58 : decode cX8_isSoBy 58 = .ok (.iload 6, 2) := by decide +kernel
theorem dX8_isSoBy_60 : decode cX8_isSoBy 60 = .ok (.iconst 5, 1) := by decide +kernel
theorem dX8_isSoBy_61 : decode cX8_isSoBy 61 = .ok (.idiv, 1) := by decide +kernel
theorem dX8_isSoBy_62 : decode cX8_isSoBy 62 = .ok (.istore 6, 2) := by decide +kernel
theorem dX8_isSoBy_64 : decode cX8_isSoBy 64 = .ok (.iinc 7 1, 3) := by decide +kernel
theorem dX8_isSoBy_67 : decode cX8_isSoBy 67 = .ok (.goto (-30), 3) := by decide +kernel
theorem dX8_isSoBy_70 : decode cX8_isSoBy 70 = .ok (.aload_n 0, 1) := by decide +kernel
theorem dX8_isSoBy_71 : decode cX8_isSoBy 71 = .ok (.getfield 226, 3) := by decide +kernel
theorem dX8_isSoBy_74 : decode cX8_isSoBy 74 = .ok (.iload 4, 2) := by decide +kernel
theorem dX8_isSoBy_76 : decode cX8_isSoBy 76 = .ok (.iload 5, 2) := by decide +kernel
theorem dX8_isSoBy_78 : decode cX8_isSoBy 78 = .ok (.invokestatic 253, 3) := by decide +kernel
theorem dX8_isSoBy_81 : decode cX8_isSoBy 81 = .ok (.ireturn, 1) := by decide +kernel
set_option maxRecDepth 20000 in
theorem ggX8_order_X8_isMember : GoodIn wsX8_order wsX8_isMember := goodIn_r _ [5, 6, 7, 8, 4, 9, 47, 48, 49, 50, 51, 52, 53, 54, 55, 56, 57, 58, 59, 60, 61, 62, 63, 64, 65, 66, 67, 68, 69, 70, 71, 72, 73, 74, 75, 76, 77, 78, 79, 80, 81, 82, 83] (by decide +kernel) (by decide +kernel)
set_option maxRecDepth 20000 in
theorem gX8_order_X8_isMember : GoodIn wsX8_order (wsV RX8 200 RX8 yX8_isMember wsX8_isMember) := goodIn_app (goodIn_of _ (by decide +kernel)) ggX8_order_X8_isMember
set_option maxRecDepth 20000 in
theorem ggX8_order_X8_areFacts : GoodIn wsX8_order wsX8_areFacts := goodIn_r _ [13, 6, 7, 8, 4, 9, 47, 48, 49, 50, 51, 52, 53, 54, 55, 56, 57, 58, 59, 60, 61, 62, 63, 64, 65, 66, 67, 68, 69, 70, 71, 72, 73, 74, 75, 76, 77, 78, 79, 80, 81, 82, 83] (by decide +kernel) (by decide +kernel)
set_option maxRecDepth 20000 in
theorem gX8_order_X8_areFacts : GoodIn wsX8_order (wsV RX8 258 RX8 yX8_areFacts wsX8_areFacts) := goodIn_app (goodIn_of _ (by decide +kernel)) ggX8_order_X8_areFacts
set_option maxRecDepth 20000 in
theorem ggX8_order_X8_isSoBy : GoodIn wsX8_order wsX8_isSoBy := goodIn_r _ [17, 6, 18, 19, 20, 21, 22, 4, 23, 24, 25, 26, 27, 28, 29, 30, 31, 32, 33, 34, 35, 36, 37, 38, 39, 40, 41, 42, 43, 44, 45, 46, 47, 48, 49, 50, 51, 52, 53, 54, 55, 56, 57, 58, 59, 60, 61, 62, 63, 64, 65, 66, 67, 68, 69, 70, 71, 72, 73, 74, 75, 76, 77, 78, 79, 80, 81, 82, 83] (by decide +kernel) (by decide +kernel)
set_option maxRecDepth 20000 in
theorem gX8_order_X8_isSoBy : GoodIn wsX8_order (wsV RX8 265 RX8 yX8_isSoBy wsX8_isSoBy) := goodIn_app (goodIn_of _ (by decide +kernel)) ggX8_order_X8_isSoBy
theorem dX8_order_0 : decode cX8_order 0 = .ok (.aload_n 0, 1) := by decide +kernel
theorem dX8_order_1 : decode cX8_order 1 = .ok (.iload_n 1, 1) := by decide +kernel
theorem dX8_order_2 : decode cX8_order 2 = .ok (.invokevirtual 200, 3) := by decide +kernel
theorem dX8_order_5 : decode cX8_order 5 = .ok (.ifCond .eq 19, 3) := by decide +kernel
theorem dX8_order_8 : decode cX8_order 8 = .ok (.aload_n 0, 1) := by decide +kernel
theorem dX8_order_9 : decode cX8_order 9 = .ok (.iload_n 2, 1) := by decide +kernel
theorem dX8_order_10 : decode cX8_order 10 = .ok (.invokevirtual 258, 3) := by decide +kernel
theorem dX8_order_13 : decode cX8_order 13 = .ok (.ifCond .eq 11, 3) := by decide +kernel
theorem dX8_order_16 : decode cX8_order 16 = .ok (.aload_n 0, 1) := by decide +kernel
theorem dX8_order_17 : decode cX8_order 17 = .ok (.iload_n 3, 1) := by decide +kernel
theorem dX8_order_18 : decode cX8_order 18 = .ok (.invokevirtual 258, 3) := by decide +kernel
theorem dX8_order_21 : decode cX8_order 21 = .ok (.ifCond .ne 6, 3) := by decide +kernel
theorem dX8_order_24 : decode cX8_order 24 = .ok (.bipush (-2), 2) := by decide +kernel
theorem dX8_order_26 : decode cX8_order 26 = .ok (.ireturn, 1) := by decide +kernel
theorem dX8_order_27 : decode cX8_order 27 = .ok (.iconst 1, 1) := by decide +kernel
theorem dX8_order_28 : decode cX8_order 28 = .ok (.istore 4, 2) := by decide +kernel
theorem dX8_order_30 : decode cX8_order 30 = .ok (.iconst 0, 1) := by decide +kernel
theorem dX8_order_31 : decode cX8_order 31 = .ok (.istore 5, 2) := by decide +kernel
theorem dX8_order_33 : decode cX8_order 33 = .ok (.iload 5, 2) := by decide +kernel
theorem dX8_order_35 : decode cX8_order 35 = .ok (.iconst 4, 1) := by decide +kernel
theorem dX8_order_36 : decode cX8_order 36 = .ok (.if_icmp .ge 103, 3) := by decide +kernel
theorem dX8_order_39 : decode cX8_order 39 = .ok (.iconst 0, 1) := by decide +kernel
theorem dX8_order_40 : decode cX8_order 40 = .ok (.istore 6, 2) := by decide +kernel
theorem dX8_order_42 : decode cX8_order 42 = .ok (.iload 6, 2) := by decide +kernel
theorem dX8_order_44 : decode cX8_order 44 = .ok (.iload 4, 2) := by decide +kernel
theorem dX8_order_46 : decode cX8_order 46 = .ok (.if_icmp .ge 81, 3) := by decide +kernel
theorem dX8_order_49 : decode cX8_order 49 = .ok (.aload_n 0, 1) := by decide +kernel
theorem dX8_order_50 : decode cX8_order 50 = .ok (.iload_n 1, 1) := by decide +kernel
theorem dX8_order_51 : decode cX8_order 51 = .ok (.iload 6, 2) := by decide +kernel
theorem dX8_order_53 : decode cX8_order 53 = .ok (.iload 5, 2) := by decide +kernel
theorem dX8_order_55 : decode cX8_order 55 = .ok (.iload_n 2, 1) := by decide +kernel
theorem dX8_order_56 : decode cX8_order 56 = .ok (.iload_n 3, 1) := by decide +kernel
theorem dX8_order_57 : decode cX8_order 57 = .ok (.invokevirtual 265, 3) := by decide +kernel
theorem dX8_order_60 : decode cX8_order 60 = .ok (.ifCond .eq 61, 3) := by decide +kernel
theorem dX8_order_63 : decode cX8_order 63 = .ok (.iconst 0, 1) := by decide +kernel
theorem dX8_order_64 : decode cX8_order 64 = .ok (.istore 7, 2) := by decide +kernel
theorem dX8_order_66 : decode cX8_order 66 = .ok (.iconst 1, 1) := by decide +kernel
theorem dX8_order_67 : decode cX8_order 67 = .ok (.istore 8, 2) := by decide +kernel
theorem dX8_order_69 : decode cX8_order 69 = .ok (.iconst 1, 1) := by decide +kernel
theorem dX8_order_70 : decode cX8_order 70 = .ok (.istore 9, 2) := by decide +kernel
theorem dX8_order_72 : decode cX8_order 72 = .ok (.iconst 0, 1) := by decide +kernel
theorem dX8_order_73 : decode cX8_order 73 = .ok (.istore 10, 2) := by decide +kernel
theorem dX8_order_75 : decode cX8_order 75 = .ok (.iload 10, 2) := by decide +kernel
theorem dX8_order_77 : decode cX8_order 77 = .ok (.iload 5, 2) := by decide +kernel
theorem dX8_order_79 : decode cX8_order 79 = .ok (.if_icmp .ge 39, 3) := by decide +kernel
theorem dX8_order_82 : decode cX8_order 82 = .ok (.iload 7, 2) := by decide +kernel
theorem dX8_order_84 : decode cX8_order 84 = .ok (.iload 9, 2) := by decide +kernel
theorem dX8_order_86 : decode cX8_order 86 = .ok (.iconst 1, 1) := by decide +kernel
theorem dX8_order_87 : decode cX8_order 87 = .ok (.iload 6, 2) := by decide +kernel
theorem dX8_order_89 : decode cX8_order 89 = .ok (.iload 8, 2) := by decide +kernel
theorem dX8_order_91 : decode cX8_order 91 = .ok (.idiv, 1) := by decide +kernel
theorem dX8_order_92 : decode cX8_order 92 = .ok (.iconst 5, 1) := by decide +kernel
theorem dX8_order_93 : decode cX8_order 93 = .ok (.irem, 1) := by decide +kernel
theorem dX8_order_94 : decode cX8_order 94 = .ok (.iadd, 1) := by decide +kernel
theorem dX8_order_95 : decode cX8_order 95 = .ok (.imul, 1) := by decide +kernel
theorem dX8_order_96 : decode cX8_order 96 = .ok (.iadd, 1) := by decide +kernel
theorem dX8_order_97 : decode cX8_order 97 = .ok (.istore 7, 2) := by decide +kernel
theorem dX8_order_99 : decode cX8_order 99 = .ok (.iload 8, 2) := by decide +kernel
theorem dX8_order_101 : decode cX8_order 101 = .ok (.iconst 5, 1) := by decide +kernel
theorem dX8_order_102 : decode cX8_order 102 = .ok (.imul, 1) := by decide +kernel
theorem dX8_order_103 : decode cX8_order 103 = .ok (.istore 8, 2) := by decide +kernel
theorem dX8_order_105 : decode cX8_order 105 = .ok (.iload 9, 2) := by decide +kernel
theorem dX8_order_107 : decode cX8_order 107 = .ok (.bipush 10, 2) := by decide +kernel
theorem dX8_order_109 : decode cX8_order 109 = .ok (.imul, 1) := by decide +kernel
theorem dX8_order_110 : decode cX8_order 110 = .ok (.istore 9, 2) := by decide +kernel
theorem dX8_order_112 : decode cX8_order 112 = .ok (.iinc 10 1, 3) := by decide +kernel
theorem dX8_order_115 : decode cX8_order 115 = .ok (.goto (-40), 3) := by decide +kernel
theorem dX8_order_118 : decode cX8_order 118 = .ok (.iload 7, 2) := by decide +kernel
theorem dX8_order_120 : decode cX8_order 120 = .ok (.ireturn, 1) := by decide +kernel
theorem dX8_order_121 : decode cX8_order 121 = .ok (.iinc 6 1, 3) := by decide +kernel
theorem dX8_order_124 : decode cX8_order 124 = .ok (.goto (-82), 3) := by decide +kernel
theorem dX8_order_127 : decode cX8_order 127 = .ok (.iload 4, 2) := by decide +kernel
theorem dX8_order_129 : decode cX8_order 129 = .ok (.iconst 5, 1) := by decide +kernel
theorem dX8_order_130 : decode cX8_order 130 = .ok (.imul, 1) := by decide +kernel
theorem dX8_order_131 : decode cX8_order 131 = .ok (.istore 4, 2) := by decide +kernel
theorem dX8_order_133 : decode cX8_order 133 = .ok (.iinc 5 1, 3) := by decide +kernel
theorem dX8_order_136 : decode cX8_order 136 = .ok (.goto (-103), 3) := by decide +kernel
theorem dX8_order_139 : decode cX8_order 139 = .ok (.iconst (-1), 1) := by decide +kernel
theorem dX8_order_140 : decode cX8_order 140 = .ok (.ireturn, 1) := by decide +kernel
theorem dX8_knownBySome_0 : decode cX8_knownBySome 0 = .ok (.iconst 0, 1) := by decide +kernel
theorem dX8_knownBySome_1 : decode cX8_knownBySome 1 = .ok (.istore_n 2, 1) := by decide +kernel
theorem dX8_knownBySome_2 : decode cX8_knownBySome 2 = .ok (.iconst 0, 1) := by decide +kernel
theorem dX8_knownBySome_3 : decode cX8_knownBySome 3 = .ok (.istore_n 3, 1) := by decide +kernel
theorem dX8_knownBySome_4 : decode cX8_knownBySome 4 = .ok (.iload_n 3, 1) := by decide +kernel
theorem dX8_knownBySome_5 : decode cX8_knownBySome 5 = .ok (.aload_n 0, 1) := by decide +kernel
theorem dX8_knownBySome_6 : decode cX8_knownBySome 6 = .ok (.getfield 7, 3) := by decide +kernel
theorem dX8_knownBySome_9 : decode cX8_knownBySome 9 = .ok (.iload_n 1, 1) := by decide +kernel
theorem dX8_knownBySome_10 : decode cX8_knownBySome 10 = .ok (.bipush 16, 2) := by decide +kernel
theorem dX8_knownBySome_12 : decode cX8_knownBySome 12 = .ok (.iadd, 1) := by decide +kernel
theorem dX8_knownBySome_13 : decode cX8_knownBySome 13 = .ok (.iaload, 1) := by decide +kernel
theorem dX8_knownBySome_14 : decode cX8_knownBySome 14 = .ok (.if_icmp .ge 22, 3) := by decide +kernel
theorem dX8_knownBySome_17 : decode cX8_knownBySome 17 = .ok (.iload_n 2, 1) := by decide +kernel
theorem dX8_knownBySome_18 : decode cX8_knownBySome 18 = .ok (.aload_n 0, 1) := by decide +kernel
theorem dX8_knownBySome_19 : decode cX8_knownBySome 19 = .ok (.getfield 7, 3) := by decide +kernel
theorem dX8_knownBySome_22 : decode cX8_knownBySome 22 = .ok (.iload_n 1, 1) := by decide +kernel
