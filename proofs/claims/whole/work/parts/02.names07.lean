theorem dX7_put_45 : decode cX7_put 45 = .ok (.bipush (-4), 2) := by decide +kernel
theorem dX7_put_47 : decode cX7_put 47 = .ok (.ireturn, 1) := by decide +kernel
theorem dX7_put_48 : decode cX7_put 48 = .ok (.aload_n 0, 1) := by decide +kernel
theorem dX7_put_49 : decode cX7_put 49 = .ok (.invokevirtual 172, 3) := by decide +kernel
theorem dX7_put_52 : decode cX7_put 52 = .ok (.aload_n 0, 1) := by decide +kernel
theorem dX7_put_53 : decode cX7_put 53 = .ok (.getfield 30, 3) := by decide +kernel
theorem dX7_put_56 : decode cX7_put 56 = .ok (.getfield 156, 3) := by decide +kernel
theorem dX7_put_59 : decode cX7_put 59 = .ok (.iload_n 1, 1) := by decide +kernel
theorem dX7_put_60 : decode cX7_put 60 = .ok (.iload_n 2, 1) := by decide +kernel
theorem dX7_put_61 : decode cX7_put 61 = .ok (.iastore, 1) := by decide +kernel
theorem dX7_put_62 : decode cX7_put 62 = .ok (.iload_n 3, 1) := by decide +kernel
theorem dX7_put_63 : decode cX7_put 63 = .ok (.ireturn, 1) := by decide +kernel
set_option maxRecDepth 20000 in
theorem ggX7_salt_X3_hasLeech : GoodIn wsX7_salt wsX3_hasLeech := goodIn_r _ [9, 10, 46, 47, 48, 49, 50, 51, 52, 53] (by decide +kernel) (by decide +kernel)
set_option maxRecDepth 20000 in
theorem gX7_salt_X3_hasLeech : GoodIn wsX7_salt (wsV RX7 150 RX3 yX3_hasLeech wsX3_hasLeech) := goodIn_app (goodIn_of _ (by decide +kernel)) ggX7_salt_X3_hasLeech
set_option maxRecDepth 20000 in
theorem ggX7_salt_X7_remember : GoodIn wsX7_salt wsX7_remember := goodIn_r _ [15, 16, 17, 1, 18, 19, 20, 8, 21, 22, 10, 23, 24, 25, 26, 27, 28, 29, 30, 31, 32, 33, 34, 35, 36, 37, 38, 39, 40, 41, 42, 43, 44, 45, 46, 47, 48, 49, 50, 51, 52, 53] (by decide +kernel) (by decide +kernel)
set_option maxRecDepth 20000 in
theorem gX7_salt_X7_remember : GoodIn wsX7_salt (wsV RX7 172 RX7 yX7_remember wsX7_remember) := goodIn_app (goodIn_of _ (by decide +kernel)) ggX7_salt_X7_remember
theorem dX7_salt_0 : decode cX7_salt 0 = .ok (.aload_n 0, 1) := by decide +kernel
theorem dX7_salt_1 : decode cX7_salt 1 = .ok (.getfield 30, 3) := by decide +kernel
theorem dX7_salt_4 : decode cX7_salt 4 = .ok (.iload_n 1, 1) := by decide +kernel
theorem dX7_salt_5 : decode cX7_salt 5 = .ok (.invokevirtual 150, 3) := by decide +kernel
theorem dX7_salt_8 : decode cX7_salt 8 = .ok (.ifCond .ne 6, 3) := by decide +kernel
theorem dX7_salt_11 : decode cX7_salt 11 = .ok (.bipush (-2), 2) := by decide +kernel
theorem dX7_salt_13 : decode cX7_salt 13 = .ok (.ireturn, 1) := by decide +kernel
theorem dX7_salt_14 : decode cX7_salt 14 = .ok (.aload_n 0, 1) := by decide +kernel
theorem dX7_salt_15 : decode cX7_salt 15 = .ok (.getfield 30, 3) := by decide +kernel
theorem dX7_salt_18 : decode cX7_salt 18 = .ok (.getfield 156, 3) := by decide +kernel
theorem dX7_salt_21 : decode cX7_salt 21 = .ok (.iload_n 1, 1) := by decide +kernel
theorem dX7_salt_22 : decode cX7_salt 22 = .ok (.iaload, 1) := by decide +kernel
theorem dX7_salt_23 : decode cX7_salt 23 = .ok (.iconst (-1), 1) := by decide +kernel
theorem dX7_salt_24 : decode cX7_salt 24 = .ok (.if_icmp .eq 6, 3) := by decide +kernel
theorem dX7_salt_27 : decode cX7_salt 27 = .ok (.bipush (-4), 2) := by decide +kernel
theorem dX7_salt_29 : decode cX7_salt 29 = .ok (.ireturn, 1) := by decide +kernel
theorem dX7_salt_30 : decode cX7_salt 30 = .ok (.aload_n 0, 1) := by decide +kernel
theorem dX7_salt_31 : decode cX7_salt 31 = .ok (.invokevirtual 172, 3) := by decide +kernel
theorem dX7_salt_34 : decode cX7_salt 34 = .ok (.aload_n 0, 1) := by decide +kernel
theorem dX7_salt_35 : decode cX7_salt 35 = .ok (.getfield 30, 3) := by decide +kernel
theorem dX7_salt_38 : decode cX7_salt 38 = .ok (.dup, 1) := by decide +kernel
theorem dX7_salt_39 : decode cX7_salt 39 = .ok (.getfield 179, 3) := by decide +kernel
theorem dX7_salt_42 : decode cX7_salt 42 = .ok (.aload_n 0, 1) := by decide +kernel
theorem dX7_salt_43 : decode cX7_salt 43 = .ok (.getfield 30, 3) := by decide +kernel
theorem dX7_salt_46 : decode cX7_salt 46 = .ok (.getfield 126, 3) := by decide +kernel
theorem dX7_salt_49 : decode cX7_salt 49 = .ok (.iload_n 1, 1) := by decide +kernel
theorem dX7_salt_50 : decode cX7_salt 50 = .ok (.iaload, 1) := by decide +kernel
theorem dX7_salt_51 : decode cX7_salt 51 = .ok (.ior, 1) := by decide +kernel
theorem dX7_salt_52 : decode cX7_salt 52 = .ok (.putfield 179, 3) := by decide +kernel
theorem dX7_salt_55 : decode cX7_salt 55 = .ok (.aload_n 0, 1) := by decide +kernel
theorem dX7_salt_56 : decode cX7_salt 56 = .ok (.getfield 30, 3) := by decide +kernel
theorem dX7_salt_59 : decode cX7_salt 59 = .ok (.getfield 126, 3) := by decide +kernel
theorem dX7_salt_62 : decode cX7_salt 62 = .ok (.iload_n 1, 1) := by decide +kernel
theorem dX7_salt_63 : decode cX7_salt 63 = .ok (.iconst 0, 1) := by decide +kernel
theorem dX7_salt_64 : decode cX7_salt 64 = .ok (.iastore, 1) := by decide +kernel
theorem dX7_salt_65 : decode cX7_salt 65 = .ok (.aload_n 0, 1) := by decide +kernel
theorem dX7_salt_66 : decode cX7_salt 66 = .ok (.getfield 30, 3) := by decide +kernel
theorem dX7_salt_69 : decode cX7_salt 69 = .ok (.getfield 179, 3) := by decide +kernel
theorem dX7_salt_72 : decode cX7_salt 72 = .ok (.ireturn, 1) := by decide +kernel
set_option maxRecDepth 20000 in
theorem ggX7_read_X3_hasMember : GoodIn wsX7_read wsX3_hasMember := goodIn_r _ [9, 10, 62, 63, 64, 65, 66, 67, 68, 69] (by decide +kernel) (by decide +kernel)
set_option maxRecDepth 20000 in
theorem gX7_read_X3_hasMember : GoodIn wsX7_read (wsV RX7 132 RX3 yX3_hasMember wsX3_hasMember) := goodIn_app (goodIn_of _ (by decide +kernel)) ggX7_read_X3_hasMember
set_option maxRecDepth 20000 in
theorem ggX7_read_X0_hasFact : GoodIn wsX7_read wsX0_hasFact := goodIn_r _ [15, 16, 70, 71, 72, 73] (by decide +kernel) (by decide +kernel)
set_option maxRecDepth 20000 in
theorem gX7_read_X0_hasFact : GoodIn wsX7_read (wsV RX7 106 RX0 yX0_hasFact wsX0_hasFact) := goodIn_app (goodIn_of _ (by decide +kernel)) ggX7_read_X0_hasFact
set_option maxRecDepth 20000 in
theorem ggX7_read_X7_hasBit : GoodIn wsX7_read wsX7_hasBit := goodIn_r _ [20] (by decide +kernel) (by decide +kernel)
set_option maxRecDepth 20000 in
theorem gX7_read_X7_hasBit : GoodIn wsX7_read (va_wsS RX7 162 yX7_hasBit wsX7_hasBit) := goodIn_app (goodIn_of _ (by decide +kernel)) ggX7_read_X7_hasBit
set_option maxRecDepth 20000 in
theorem ggX7_read_X7_remember : GoodIn wsX7_read wsX7_remember := goodIn_r _ [24, 25, 26, 1, 27, 28, 29, 8, 30, 10, 31, 32, 33, 34, 35, 36, 37, 38, 39, 40, 41, 49, 50, 51, 52, 53, 54, 55, 56, 57, 58, 59, 60, 61, 62, 63, 64, 65, 66, 67, 68, 69] (by decide +kernel) (by decide +kernel)
set_option maxRecDepth 20000 in
theorem gX7_read_X7_remember : GoodIn wsX7_read (wsV RX7 172 RX7 yX7_remember wsX7_remember) := goodIn_app (goodIn_of _ (by decide +kernel)) ggX7_read_X7_remember
set_option maxRecDepth 20000 in
theorem ggX7_read_J6_bitCount_0f7a4 : GoodIn wsX7_read wsJ6_bitCount_0f7a4 := goodIn_r _ [45, 46, 47, 48] (by decide +kernel) (by decide +kernel)
set_option maxRecDepth 20000 in
theorem gX7_read_J6_bitCount_0f7a4 : GoodIn wsX7_read (va_wsS RX7 182 yJ6_bitCount_0f7a4 wsJ6_bitCount_0f7a4) := goodIn_app (goodIn_of _ (by decide +kernel)) ggX7_read_J6_bitCount_0f7a4
theorem dX7_read_0 : decode cX7_read 0 = .ok (.aload_n 0, 1) := by decide +kernel
theorem dX7_read_1 : decode cX7_read 1 = .ok (.getfield 30, 3) := by decide +kernel
theorem dX7_read_4 : decode cX7_read 4 = .ok (.iload_n 1, 1) := by decide +kernel
theorem dX7_read_5 : decode cX7_read 5 = .ok (.invokevirtual 132, 3) := by decide +kernel
theorem dX7_read_8 : decode cX7_read 8 = .ok (.ifCond .eq 14, 3) := by decide +kernel
theorem dX7_read_11 : decode cX7_read 11 = .ok (.aload_n 0, 1) := by decide +kernel
theorem dX7_read_12 : decode cX7_read 12 = .ok (.getfield 19, 3) := by decide +kernel
theorem dX7_read_15 : decode cX7_read 15 = .ok (.iload_n 2, 1) := by decide +kernel
theorem dX7_read_16 : decode cX7_read 16 = .ok (.invokevirtual 106, 3) := by decide +kernel
theorem dX7_read_19 : decode cX7_read 19 = .ok (.ifCond .ne 6, 3) := by decide +kernel
theorem dX7_read_22 : decode cX7_read 22 = .ok (.bipush (-2), 2) := by decide +kernel
theorem dX7_read_24 : decode cX7_read 24 = .ok (.ireturn, 1) := by decide +kernel
theorem dX7_read_25 : decode cX7_read 25 = .ok (.aload_n 0, 1) := by decide +kernel
theorem dX7_read_26 : decode cX7_read 26 = .ok (.getfield 30, 3) := by decide +kernel
theorem dX7_read_29 : decode cX7_read 29 = .ok (.getfield 116, 3) := by decide +kernel
theorem dX7_read_32 : decode cX7_read 32 = .ok (.iload_n 1, 1) := by decide +kernel
theorem dX7_read_33 : decode cX7_read 33 = .ok (.iaload, 1) := by decide +kernel
theorem dX7_read_34 : decode cX7_read 34 = .ok (.istore_n 3, 1) := by decide +kernel
theorem dX7_read_35 : decode cX7_read 35 = .ok (.iload_n 3, 1) := by decide +kernel
theorem dX7_read_36 : decode cX7_read 36 = .ok (.iload_n 2, 1) := by decide +kernel
theorem dX7_read_37 : decode cX7_read 37 = .ok (.invokestatic 162, 3) := by decide +kernel
theorem dX7_read_40 : decode cX7_read 40 = .ok (.ifCond .eq 6, 3) := by decide +kernel
theorem dX7_read_43 : decode cX7_read 43 = .ok (.bipush (-4), 2) := by decide +kernel
theorem dX7_read_45 : decode cX7_read 45 = .ok (.ireturn, 1) := by decide +kernel
theorem dX7_read_46 : decode cX7_read 46 = .ok (.aload_n 0, 1) := by decide +kernel
theorem dX7_read_47 : decode cX7_read 47 = .ok (.invokevirtual 172, 3) := by decide +kernel
theorem dX7_read_50 : decode cX7_read 50 = .ok (.aload_n 0, 1) := by decide +kernel
theorem dX7_read_51 : decode cX7_read 51 = .ok (.getfield 30, 3) := by decide +kernel
theorem dX7_read_54 : decode cX7_read 54 = .ok (.getfield 116, 3) := by decide +kernel
theorem dX7_read_57 : decode cX7_read 57 = .ok (.iload_n 1, 1) := by decide +kernel
theorem dX7_read_58 : decode cX7_read 58 = .ok (.iload_n 3, 1) := by decide +kernel
theorem dX7_read_59 : decode cX7_read 59 = .ok (.aload_n 0, 1) := by decide +kernel
theorem dX7_read_60 : decode cX7_read 60 = .ok (.getfield 19, 3) := by decide +kernel
theorem dX7_read_63 : decode cX7_read 63 = .ok (.getfield 113, 3) := by decide +kernel
theorem dX7_read_66 : decode cX7_read 66 = .ok (.iload_n 2, 1) := by decide +kernel
theorem dX7_read_67 : decode cX7_read 67 = .ok (.iaload, 1) := by decide +kernel
theorem dX7_read_68 : decode cX7_read 68 = .ok (.ior, 1) := by decide +kernel
theorem dX7_read_69 : decode cX7_read 69 = .ok (.iastore, 1) := by decide +kernel
theorem dX7_read_70 : decode cX7_read 70 = .ok (.aload_n 0, 1) := by decide +kernel
theorem dX7_read_71 : decode cX7_read 71 = .ok (.getfield 19, 3) := by decide +kernel
theorem dX7_read_74 : decode cX7_read 74 = .ok (.getfield 113, 3) := by decide +kernel
theorem dX7_read_77 : decode cX7_read 77 = .ok (.iload_n 2, 1) := by decide +kernel
theorem dX7_read_78 : decode cX7_read 78 = .ok (.iaload, 1) := by decide +kernel
theorem dX7_read_79 : decode cX7_read 79 = .ok (.iload_n 3, 1) := by decide +kernel
theorem dX7_read_80 : decode cX7_read 80 = .ok (.iconst (-1), 1) := by decide +kernel
theorem dX7_read_81 : decode cX7_read 81 = .ok (.ixor, 1) := by decide +kernel
theorem dX7_read_82 : decode cX7_read 82 = .ok (.iand, 1) := by decide +kernel
theorem dX7_read_83 : decode cX7_read 83 = .ok (.invokestatic 182, 3) := by decide +kernel
theorem dX7_read_86 : decode cX7_read 86 = .ok (.ireturn, 1) := by decide +kernel
set_option maxRecDepth 20000 in
theorem ggX7_undo_X3_setAs : GoodIn wsX7_undo wsX3_setAs := goodIn_r _ [8, 9, 10, 11, 12, 13, 14, 15, 16, 17, 18, 19, 20, 34, 35, 36, 37, 38, 39, 40, 41] (by decide +kernel) (by decide +kernel)
set_option maxRecDepth 20000 in
theorem gX7_undo_X3_setAs : GoodIn wsX7_undo (wsV RX7 91 RX3 yX3_setAs wsX3_setAs) := goodIn_app (goodIn_of _ (by decide +kernel)) ggX7_undo_X3_setAs
theorem dX7_undo_0 : decode cX7_undo 0 = .ok (.aload_n 0, 1) := by decide +kernel
theorem dX7_undo_1 : decode cX7_undo 1 = .ok (.getfield 94, 3) := by decide +kernel
theorem dX7_undo_4 : decode cX7_undo 4 = .ok (.ifCond .ne 6, 3) := by decide +kernel
theorem dX7_undo_7 : decode cX7_undo 7 = .ok (.bipush (-4), 2) := by decide +kernel
theorem dX7_undo_9 : decode cX7_undo 9 = .ok (.ireturn, 1) := by decide +kernel
theorem dX7_undo_10 : decode cX7_undo 10 = .ok (.aload_n 0, 1) := by decide +kernel
theorem dX7_undo_11 : decode cX7_undo 11 = .ok (.dup, 1) := by decide +kernel
theorem dX7_undo_12 : decode cX7_undo 12 = .ok (.getfield 94, 3) := by decide +kernel
theorem dX7_undo_15 : decode cX7_undo 15 = .ok (.iconst 1, 1) := by decide +kernel
theorem dX7_undo_16 : decode cX7_undo 16 = .ok (.isub, 1) := by decide +kernel
theorem dX7_undo_17 : decode cX7_undo 17 = .ok (.putfield 94, 3) := by decide +kernel
theorem dX7_undo_20 : decode cX7_undo 20 = .ok (.aload_n 0, 1) := by decide +kernel
theorem dX7_undo_21 : decode cX7_undo 21 = .ok (.getfield 30, 3) := by decide +kernel
theorem dX7_undo_24 : decode cX7_undo 24 = .ok (.aload_n 0, 1) := by decide +kernel
theorem dX7_undo_25 : decode cX7_undo 25 = .ok (.getfield 36, 3) := by decide +kernel
theorem dX7_undo_28 : decode cX7_undo 28 = .ok (.aload_n 0, 1) := by decide +kernel
theorem dX7_undo_29 : decode cX7_undo 29 = .ok (.getfield 94, 3) := by decide +kernel
theorem dX7_undo_32 : decode cX7_undo 32 = .ok (.aaload, 1) := by decide +kernel
theorem dX7_undo_33 : decode cX7_undo 33 = .ok (.invokevirtual 91, 3) := by decide +kernel
theorem dX7_undo_36 : decode cX7_undo 36 = .ok (.aload_n 0, 1) := by decide +kernel
theorem dX7_undo_37 : decode cX7_undo 37 = .ok (.getfield 94, 3) := by decide +kernel
theorem dX7_undo_40 : decode cX7_undo 40 = .ok (.ireturn, 1) := by decide +kernel
set_option maxRecDepth 20000 in
theorem ggX7_keep_X3_setAs : GoodIn wsX7_keep wsX3_setAs := goodIn_r _ [9, 10, 11, 12, 13, 14, 15, 16, 17, 18, 19, 20, 21, 35, 36, 37, 38, 39, 40, 41, 42] (by decide +kernel) (by decide +kernel)
set_option maxRecDepth 20000 in
theorem gX7_keep_X3_setAs : GoodIn wsX7_keep (wsV RX7 91 RX3 yX3_setAs wsX3_setAs) := goodIn_app (goodIn_of _ (by decide +kernel)) ggX7_keep_X3_setAs
theorem dX7_keep_0 : decode cX7_keep 0 = .ok (.iload_n 1, 1) := by decide +kernel
theorem dX7_keep_1 : decode cX7_keep 1 = .ok (.ifCond .lt 8, 3) := by decide +kernel
theorem dX7_keep_4 : decode cX7_keep 4 = .ok (.iload_n 1, 1) := by decide +kernel
theorem dX7_keep_5 : decode cX7_keep 5 = .ok (.iconst 2, 1) := by decide +kernel
theorem dX7_keep_6 : decode cX7_keep 6 = .ok (.if_icmp .lt 6, 3) := by decide +kernel
theorem dX7_keep_9 : decode cX7_keep 9 = .ok (.bipush (-2), 2) := by decide +kernel
theorem dX7_keep_11 : decode cX7_keep 11 = .ok (.ireturn, 1) := by decide +kernel
theorem dX7_keep_12 : decode cX7_keep 12 = .ok (.aload_n 0, 1) := by decide +kernel
theorem dX7_keep_13 : decode cX7_keep 13 = .ok (.getfield 40, 3) := by decide +kernel
theorem dX7_keep_16 : decode cX7_keep 16 = .ok (.iload_n 1, 1) := by decide +kernel
theorem dX7_keep_17 : decode cX7_keep 17 = .ok (.aaload, 1) := by decide +kernel
theorem dX7_keep_18 : decode cX7_keep 18 = .ok (.aload_n 0, 1) := by decide +kernel
theorem dX7_keep_19 : decode cX7_keep 19 = .ok (.getfield 30, 3) := by decide +kernel
theorem dX7_keep_22 : decode cX7_keep 22 = .ok (.invokevirtual 91, 3) := by decide +kernel
theorem dX7_keep_25 : decode cX7_keep 25 = .ok (.aload_n 0, 1) := by decide +kernel
theorem dX7_keep_26 : decode cX7_keep 26 = .ok (.dup, 1) := by decide +kernel
theorem dX7_keep_27 : decode cX7_keep 27 = .ok (.getfield 97, 3) := by decide +kernel
theorem dX7_keep_30 : decode cX7_keep 30 = .ok (.iconst 1, 1) := by decide +kernel
theorem dX7_keep_31 : decode cX7_keep 31 = .ok (.iload_n 1, 1) := by decide +kernel
theorem dX7_keep_32 : decode cX7_keep 32 = .ok (.ishl, 1) := by decide +kernel
theorem dX7_keep_33 : decode cX7_keep 33 = .ok (.ior, 1) := by decide +kernel
theorem dX7_keep_34 : decode cX7_keep 34 = .ok (.putfield 97, 3) := by decide +kernel
theorem dX7_keep_37 : decode cX7_keep 37 = .ok (.aload_n 0, 1) := by decide +kernel
theorem dX7_keep_38 : decode cX7_keep 38 = .ok (.getfield 30, 3) := by decide +kernel
theorem dX7_keep_41 : decode cX7_keep 41 = .ok (.getfield 169, 3) := by decide +kernel
theorem dX7_keep_44 : decode cX7_keep 44 = .ok (.ireturn, 1) := by decide +kernel
set_option maxRecDepth 20000 in
theorem ggX7_back_X7_hasBit : GoodIn wsX7_back wsX7_hasBit := goodIn_r _ [9] (by decide +kernel) (by decide +kernel)
set_option maxRecDepth 20000 in
theorem gX7_back_X7_hasBit : GoodIn wsX7_back (va_wsS RX7 162 yX7_hasBit wsX7_hasBit) := goodIn_app (goodIn_of _ (by decide +kernel)) ggX7_back_X7_hasBit
set_option maxRecDepth 20000 in
theorem ggX7_back_X3_setAs : GoodIn wsX7_back wsX3_setAs := goodIn_r _ [14, 15, 16, 17, 18, 19, 20, 21, 22, 23, 24, 25, 26, 40, 41, 42, 43, 44, 45, 46, 47] (by decide +kernel) (by decide +kernel)
set_option maxRecDepth 20000 in
theorem gX7_back_X3_setAs : GoodIn wsX7_back (wsV RX7 91 RX3 yX3_setAs wsX3_setAs) := goodIn_app (goodIn_of _ (by decide +kernel)) ggX7_back_X3_setAs
theorem dX7_back_0 : decode cX7_back 0 = .ok (.iload_n 1, 1) := by decide +kernel
theorem dX7_back_1 : decode cX7_back 1 = .ok (.ifCond .lt 8, 3) := by decide +kernel
theorem dX7_back_4 : decode cX7_back 4 = .ok (.iload_n 1, 1) := by decide +kernel
theorem dX7_back_5 : decode cX7_back 5 = .ok (.iconst 2, 1) := by decide +kernel
theorem dX7_back_6 : decode cX7_back 6 = .ok (.if_icmp .lt 6, 3) := by decide +kernel
theorem dX7_back_9 : decode cX7_back 9 = .ok (.bipush (-2), 2) := by decide +kernel
theorem dX7_back_11 : decode cX7_back 11 = .ok (.ireturn, 1) := by decide +kernel
theorem dX7_back_12 : decode cX7_back 12 = .ok (.aload_n 0, 1) := by decide +kernel
theorem dX7_back_13 : decode cX7_back 13 = .ok (.getfield 97, 3) := by decide +kernel
theorem dX7_back_16 : decode cX7_back 16 = .ok (.iload_n 1, 1) := by decide +kernel
theorem dX7_back_17 : decode cX7_back 17 = .ok (.invokestatic 162, 3) := by decide +kernel
theorem dX7_back_20 : decode cX7_back 20 = .ok (.ifCond .ne 6, 3) := by decide +kernel
theorem dX7_back_23 : decode cX7_back 23 = .ok (.bipush (-4), 2) := by decide +kernel
theorem dX7_back_25 : decode cX7_back 25 = .ok (.ireturn, 1) := by decide +kernel
theorem dX7_back_26 : decode cX7_back 26 = .ok (.aload_n 0, 1) := by decide +kernel
theorem dX7_back_27 : decode cX7_back 27 = .ok (.getfield 30, 3) := by decide +kernel
theorem dX7_back_30 : decode cX7_back 30 = .ok (.aload_n 0, 1) := by decide +kernel
theorem dX7_back_31 : decode cX7_back 31 = .ok (.getfield 40, 3) := by decide +kernel
theorem dX7_back_34 : decode cX7_back 34 = .ok (.iload_n 1, 1) := by decide +kernel
theorem dX7_back_35 : decode cX7_back 35 = .ok (.aaload, 1) := by decide +kernel
theorem dX7_back_36 : decode cX7_back 36 = .ok (.invokevirtual 91, 3) := by decide +kernel
theorem dX7_back_39 : decode cX7_back 39 = .ok (.aload_n 0, 1) := by decide +kernel
theorem dX7_back_40 : decode cX7_back 40 = .ok (.iconst 0, 1) := by decide +kernel
theorem dX7_back_41 : decode cX7_back 41 = .ok (.putfield 94, 3) := by decide +kernel
theorem dX7_back_44 : decode cX7_back 44 = .ok (.aload_n 0, 1) := by decide +kernel
theorem dX7_back_45 : decode cX7_back 45 = .ok (.getfield 30, 3) := by decide +kernel
theorem dX7_back_48 : decode cX7_back 48 = .ok (.getfield 169, 3) := by decide +kernel
theorem dX7_back_51 : decode cX7_back 51 = .ok (.ireturn, 1) := by decide +kernel
set_option maxRecDepth 20000 in
theorem ggX7_ahead_X3_hasMember : GoodIn wsX7_ahead wsX3_hasMember := goodIn_r _ [9, 10, 70, 71, 72, 73, 74, 75, 76, 77] (by decide +kernel) (by decide +kernel)
set_option maxRecDepth 20000 in
theorem gX7_ahead_X3_hasMember : GoodIn wsX7_ahead (wsV RX7 132 RX3 yX3_hasMember wsX3_hasMember) := goodIn_app (goodIn_of _ (by decide +kernel)) ggX7_ahead_X3_hasMember
set_option maxRecDepth 20000 in
theorem ggX7_ahead_X3_setAs : GoodIn wsX7_ahead wsX3_setAs := goodIn_r _ [14, 10, 15, 16, 17, 18, 19, 20, 21, 22, 23, 24, 25, 70, 71, 72, 73, 74, 75, 76, 77] (by decide +kernel) (by decide +kernel)
set_option maxRecDepth 20000 in
theorem gX7_ahead_X3_setAs : GoodIn wsX7_ahead (wsV RX7 91 RX3 yX3_setAs wsX3_setAs) := goodIn_app (goodIn_of _ (by decide +kernel)) ggX7_ahead_X3_setAs
set_option maxRecDepth 20000 in
theorem ggX7_ahead_X3_pass : GoodIn wsX7_ahead wsX3_pass := goodIn_r _ [29, 15, 24, 17, 30, 6, 7, 8, 9, 10, 31, 32, 33, 34, 23, 18, 25, 35, 36, 37, 38, 39, 40, 41, 42, 43, 44, 45, 46, 47, 48, 49, 50, 51, 52, 53, 54, 55, 56, 70, 71, 72, 73, 74, 75, 76, 77, 78, 79, 80, 81] (by decide +kernel) (by decide +kernel)
set_option maxRecDepth 20000 in
theorem gX7_ahead_X3_pass : GoodIn wsX7_ahead (wsV RX7 175 RX3 yX3_pass wsX3_pass) := goodIn_app (goodIn_of _ (by decide +kernel)) ggX7_ahead_X3_pass
theorem dX7_ahead_0 : decode cX7_ahead 0 = .ok (.aload_n 0, 1) := by decide +kernel
theorem dX7_ahead_1 : decode cX7_ahead 1 = .ok (.getfield 30, 3) := by decide +kernel
theorem dX7_ahead_4 : decode cX7_ahead 4 = .ok (.iload_n 1, 1) := by decide +kernel
theorem dX7_ahead_5 : decode cX7_ahead 5 = .ok (.invokevirtual 132, 3) := by decide +kernel
theorem dX7_ahead_8 : decode cX7_ahead 8 = .ok (.ifCond .ne 6, 3) := by decide +kernel
theorem dX7_ahead_11 : decode cX7_ahead 11 = .ok (.bipush (-2), 2) := by decide +kernel
theorem dX7_ahead_13 : decode cX7_ahead 13 = .ok (.ireturn, 1) := by decide +kernel
theorem dX7_ahead_14 : decode cX7_ahead 14 = .ok (.iload_n 2, 1) := by decide +kernel
theorem dX7_ahead_15 : decode cX7_ahead 15 = .ok (.ifCond .lt 9, 3) := by decide +kernel
theorem dX7_ahead_18 : decode cX7_ahead 18 = .ok (.iload_n 2, 1) := by decide +kernel
theorem dX7_ahead_19 : decode cX7_ahead 19 = .ok (.bipush 40, 2) := by decide +kernel
theorem dX7_ahead_21 : decode cX7_ahead 21 = .ok (.if_icmp .le 6, 3) := by decide +kernel
theorem dX7_ahead_24 : decode cX7_ahead 24 = .ok (.bipush (-3), 2) := by decide +kernel
theorem dX7_ahead_26 : decode cX7_ahead 26 = .ok (.ireturn, 1) := by decide +kernel
theorem dX7_ahead_27 : decode cX7_ahead 27 = .ok (.aload_n 0, 1) := by decide +kernel
theorem dX7_ahead_28 : decode cX7_ahead 28 = .ok (.getfield 33, 3) := by decide +kernel
theorem dX7_ahead_31 : decode cX7_ahead 31 = .ok (.aload_n 0, 1) := by decide +kernel
theorem dX7_ahead_32 : decode cX7_ahead 32 = .ok (.getfield 30, 3) := by decide +kernel
theorem dX7_ahead_35 : decode cX7_ahead 35 = .ok (.invokevirtual 91, 3) := by decide +kernel
theorem dX7_ahead_38 : decode cX7_ahead 38 = .ok (.aload_n 0, 1) := by decide +kernel
theorem dX7_ahead_39 : decode cX7_ahead 39 = .ok (.getfield 33, 3) := by decide +kernel
theorem dX7_ahead_42 : decode cX7_ahead 42 = .ok (.aload_n 0, 1) := by decide +kernel
theorem dX7_ahead_43 : decode cX7_ahead 43 = .ok (.getfield 19, 3) := by decide +kernel
theorem dX7_ahead_46 : decode cX7_ahead 46 = .ok (.iload_n 2, 1) := by decide +kernel
theorem dX7_ahead_47 : decode cX7_ahead 47 = .ok (.invokevirtual 175, 3) := by decide +kernel
theorem dX7_ahead_50 : decode cX7_ahead 50 = .ok (.aload_n 0, 1) := by decide +kernel
theorem dX7_ahead_51 : decode cX7_ahead 51 = .ok (.getfield 33, 3) := by decide +kernel
theorem dX7_ahead_54 : decode cX7_ahead 54 = .ok (.getfield 116, 3) := by decide +kernel
theorem dX7_ahead_57 : decode cX7_ahead 57 = .ok (.iload_n 1, 1) := by decide +kernel
theorem dX7_ahead_58 : decode cX7_ahead 58 = .ok (.iaload, 1) := by decide +kernel
theorem dX7_ahead_59 : decode cX7_ahead 59 = .ok (.ireturn, 1) := by decide +kernel
set_option maxRecDepth 20000 in
theorem ggX7_gone_X3_hasMember : GoodIn wsX7_gone wsX3_hasMember := goodIn_r _ [9, 10, 80, 81, 82, 83, 84, 85, 86, 87] (by decide +kernel) (by decide +kernel)
set_option maxRecDepth 20000 in
theorem gX7_gone_X3_hasMember : GoodIn wsX7_gone (wsV RX7 132 RX3 yX3_hasMember wsX3_hasMember) := goodIn_app (goodIn_of _ (by decide +kernel)) ggX7_gone_X3_hasMember
set_option maxRecDepth 20000 in
theorem ggX7_gone_X0_hasFact : GoodIn wsX7_gone wsX0_hasFact := goodIn_r _ [15, 16, 88, 89, 90, 91] (by decide +kernel) (by decide +kernel)
set_option maxRecDepth 20000 in
theorem gX7_gone_X0_hasFact : GoodIn wsX7_gone (wsV RX7 106 RX0 yX0_hasFact wsX0_hasFact) := goodIn_app (goodIn_of _ (by decide +kernel)) ggX7_gone_X0_hasFact
set_option maxRecDepth 20000 in
theorem ggX7_gone_X3_setAs : GoodIn wsX7_gone wsX3_setAs := goodIn_r _ [20, 10, 21, 22, 23, 24, 25, 26, 27, 28, 29, 30, 31, 80, 81, 82, 83, 84, 85, 86, 87] (by decide +kernel) (by decide +kernel)
set_option maxRecDepth 20000 in
theorem gX7_gone_X3_setAs : GoodIn wsX7_gone (wsV RX7 91 RX3 yX3_setAs wsX3_setAs) := goodIn_app (goodIn_of _ (by decide +kernel)) ggX7_gone_X3_setAs
set_option maxRecDepth 20000 in
theorem ggX7_gone_X7_hasBit : GoodIn wsX7_gone wsX7_hasBit := goodIn_r _ [35] (by decide +kernel) (by decide +kernel)
set_option maxRecDepth 20000 in
theorem gX7_gone_X7_hasBit : GoodIn wsX7_gone (va_wsS RX7 162 yX7_hasBit wsX7_hasBit) := goodIn_app (goodIn_of _ (by decide +kernel)) ggX7_gone_X7_hasBit
set_option maxRecDepth 20000 in
theorem ggX7_gone_X3_pass : GoodIn wsX7_gone wsX3_pass := goodIn_r _ [39, 21, 30, 23, 40, 6, 7, 8, 9, 10, 41, 42, 43, 44, 29, 24, 31, 45, 46, 47, 48, 49, 50, 51, 52, 53, 54, 55, 56, 57, 58, 59, 60, 61, 62, 63, 64, 65, 66, 80, 81, 82, 83, 84, 85, 86, 87, 88, 89, 90, 91] (by decide +kernel) (by decide +kernel)
set_option maxRecDepth 20000 in
theorem gX7_gone_X3_pass : GoodIn wsX7_gone (wsV RX7 175 RX3 yX3_pass wsX3_pass) := goodIn_app (goodIn_of _ (by decide +kernel)) ggX7_gone_X3_pass
theorem dX7_gone_0 : decode cX7_gone 0 = .ok (.aload_n 0, 1) := by decide +kernel
theorem dX7_gone_1 : decode cX7_gone 1 = .ok (.getfield 30, 3) := by decide +kernel
theorem dX7_gone_4 : decode cX7_gone 4 = .ok (.iload_n 1, 1) := by decide +kernel
theorem dX7_gone_5 : decode cX7_gone 5 = .ok (.invokevirtual 132, 3) := by decide +kernel
theorem dX7_gone_8 : decode cX7_gone 8 = .ok (.ifCond .eq 14, 3) := by decide +kernel
theorem dX7_gone_11 : decode cX7_gone 11 = .ok (.aload_n 0, 1) := by decide +kernel
theorem dX7_gone_12 : decode cX7_gone 12 = .ok (.getfield 19, 3) := by decide +kernel
theorem dX7_gone_15 : decode cX7_gone 15 = .ok (.iload_n 2, 1) := by decide +kernel
theorem dX7_gone_16 : decode cX7_gone 16 = .ok (.invokevirtual 106, 3) := by decide +kernel
theorem dX7_gone_19 : decode cX7_gone 19 = .ok (.ifCond .ne 6, 3) := by decide +kernel
theorem dX7_gone_22 : decode cX7_gone 22 = .ok (.bipush (-2), 2) := by decide +kernel
theorem dX7_gone_24 : decode cX7_gone 24 = .ok (.ireturn, 1) := by decide +kernel
theorem dX7_gone_25 : decode cX7_gone 25 = .ok (.aload_n 0, 1) := by decide +kernel
theorem dX7_gone_26 : decode cX7_gone 26 = .ok (.getfield 33, 3) := by decide +kernel
theorem dX7_gone_29 : decode cX7_gone 29 = .ok (.aload_n 0, 1) := by decide +kernel
theorem dX7_gone_30 : decode cX7_gone 30 = .ok (.getfield 30, 3) := by decide +kernel
theorem dX7_gone_33 : decode cX7_gone 33 = .ok (.invokevirtual 91, 3) := by decide +kernel
theorem dX7_gone_36 : decode cX7_gone 36 = .ok (.iconst 0, 1) := by decide +kernel
theorem dX7_gone_37 : decode cX7_gone 37 = .ok (.istore_n 3, 1) := by decide +kernel
theorem dX7_gone_38 : decode cX7_gone 38 = .ok (.iload_n 3, 1) := by decide +kernel
theorem dX7_gone_39 : decode cX7_gone 39 = .ok (.bipush 40, 2) := by decide +kernel
theorem dX7_gone_41 : decode cX7_gone 41 = .ok (.if_icmp .gt 39, 3) := by decide +kernel
theorem dX7_gone_44 : decode cX7_gone 44 = .ok (.aload_n 0, 1) := by decide +kernel
theorem dX7_gone_45 : decode cX7_gone 45 = .ok (.getfield 33, 3) := by decide +kernel
theorem dX7_gone_48 : decode cX7_gone 48 = .ok (.getfield 116, 3) := by decide +kernel
theorem dX7_gone_51 : decode cX7_gone 51 = .ok (.iload_n 1, 1) := by decide +kernel
theorem dX7_gone_52 : decode cX7_gone 52 = .ok (.iaload, 1) := by decide +kernel
theorem dX7_gone_53 : decode cX7_gone 53 = .ok (.iload_n 2, 1) := by decide +kernel
theorem dX7_gone_54 : decode cX7_gone 54 = .ok (.invokestatic 162, 3) := by decide +kernel
theorem dX7_gone_57 : decode cX7_gone 57 = .ok (.ifCond .ne 5, 3) := by decide +kernel
theorem dX7_gone_60 : decode cX7_gone 60 = .ok (.iload_n 3, 1) := by decide +kernel
theorem dX7_gone_61 : decode cX7_gone 61 = .ok (.ireturn, 1) := by decide +kernel
theorem dX7_gone_62 : decode cX7_gone 62 = .ok (.aload_n 0, 1) := by decide +kernel
theorem dX7_gone_63 : decode cX7_gone 63 = .ok (.getfield 33, 3) := by decide +kernel
theorem dX7_gone_66 : decode cX7_gone 66 = .ok (.aload_n 0, 1) := by decide +kernel
theorem dX7_gone_67 : decode cX7_gone 67 = .ok (.getfield 19, 3) := by decide +kernel
theorem dX7_gone_70 : decode cX7_gone 70 = .ok (.iconst 1, 1) := by decide +kernel
theorem dX7_gone_71 : decode cX7_gone 71 = .ok (.invokevirtual 175, 3) := by decide +kernel
theorem dX7_gone_74 : decode cX7_gone 74 = .ok (.iinc 3 1, 3) := by decide +kernel
theorem dX7_gone_77 : decode cX7_gone 77 = .ok (.goto (-39), 3) := by decide +kernel
theorem dX7_gone_80 : decode cX7_gone 80 = .ok (.iconst (-1), 1) := by decide +kernel
theorem dX7_gone_81 : decode cX7_gone 81 = .ok (.ireturn, 1) := by decide +kernel
theorem dX7_boy_0 : decode cX7_boy 0 = .ok (.iconst 0, 1) := by decide +kernel
theorem dX7_boy_1 : decode cX7_boy 1 = .ok (.istore_n 1, 1) := by decide +kernel
theorem dX7_boy_2 : decode cX7_boy 2 = .ok (.iconst 0, 1) := by decide +kernel
theorem dX7_boy_3 : decode cX7_boy 3 = .ok (.istore_n 2, 1) := by decide +kernel
theorem dX7_boy_4 : decode cX7_boy 4 = .ok (.iload_n 2, 1) := by decide +kernel
theorem dX7_boy_5 : decode cX7_boy 5 = .ok (.aload_n 0, 1) := by decide +kernel
theorem dX7_boy_6 : decode cX7_boy 6 = .ok (.getfield 19, 3) := by decide +kernel
theorem dX7_boy_9 : decode cX7_boy 9 = .ok (.getfield 187, 3) := by decide +kernel
theorem dX7_boy_12 : decode cX7_boy 12 = .ok (.if_icmp .ge 37, 3) := by decide +kernel
theorem dX7_boy_15 : decode cX7_boy 15 = .ok (.aload_n 0, 1) := by decide +kernel
theorem dX7_boy_16 : decode cX7_boy 16 = .ok (.getfield 19, 3) := by decide +kernel
theorem dX7_boy_19 : decode cX7_boy 19 = .ok (.getfield 113, 3) := by decide +kernel
theorem dX7_boy_22 : decode cX7_boy 22 = .ok (.iload_n 2, 1) := by decide +kernel
theorem dX7_boy_23 : decode cX7_boy 23 = .ok (.iaload, 1) := by decide +kernel
theorem dX7_boy_24 : decode cX7_boy 24 = .ok (.aload_n 0, 1) := by decide +kernel
theorem dX7_boy_25 : decode cX7_boy 25 = .ok (.getfield 30, 3) := by decide +kernel
theorem dX7_boy_28 : decode cX7_boy 28 = .ok (.getfield 179, 3) := by decide +kernel
theorem dX7_boy_31 : decode cX7_boy 31 = .ok (.iconst (-1), 1) := by decide +kernel
theorem dX7_boy_32 : decode cX7_boy 32 = .ok (.ixor, 1) := by decide +kernel
theorem dX7_boy_33 : decode cX7_boy 33 = .ok (.iand, 1) := by decide +kernel
theorem dX7_boy_34 : decode cX7_boy 34 = .ok (.ifCond .ne 9, 3) := by decide +kernel
theorem dX7_boy_37 : decode cX7_boy 37 = .ok (.iload_n 1, 1) := by decide +kernel
theorem dX7_boy_38 : decode cX7_boy 38 = .ok (.iconst 1, 1) := by decide +kernel
theorem dX7_boy_39 : decode cX7_boy 39 = .ok (.iload_n 2, 1) := by decide +kernel
theorem dX7_boy_40 : decode cX7_boy 40 = .ok (.ishl, 1) := by decide +kernel
theorem dX7_boy_41 : decode cX7_boy 41 = .ok (.ior, 1) := by decide +kernel
theorem dX7_boy_42 : decode cX7_boy 42 = .ok (.istore_n 1, 1) := by decide +kernel
theorem dX7_boy_43 : decode cX7_boy 43 = .ok (.iinc 2 1, 3) := by decide +kernel
theorem dX7_boy_46 : decode cX7_boy 46 = .ok (.goto (-42), 3) := by decide +kernel
theorem dX7_boy_49 : decode cX7_boy 49 = .ok (.iload_n 1, 1) := by decide +kernel
theorem dX7_boy_50 : decode cX7_boy 50 = .ok (.ireturn, 1) := by decide +kernel
set_option maxRecDepth 20000 in
theorem ggX7_soonest_X3_hasMember : GoodIn wsX7_soonest wsX3_hasMember := goodIn_r _ [8, 9, 92, 93, 94, 95, 96, 97, 98, 99] (by decide +kernel) (by decide +kernel)
set_option maxRecDepth 20000 in
theorem gX7_soonest_X3_hasMember : GoodIn wsX7_soonest (wsV RX7 132 RX3 yX3_hasMember wsX3_hasMember) := goodIn_app (goodIn_of _ (by decide +kernel)) ggX7_soonest_X3_hasMember
set_option maxRecDepth 20000 in
theorem ggX7_soonest_X0_hasBits : GoodIn wsX7_soonest wsX0_hasBits := goodIn_r _ [14, 15, 100, 101, 102, 103] (by decide +kernel) (by decide +kernel)
set_option maxRecDepth 20000 in
theorem gX7_soonest_X0_hasBits : GoodIn wsX7_soonest (wsV RX7 188 RX0 yX0_hasBits wsX0_hasBits) := goodIn_app (goodIn_of _ (by decide +kernel)) ggX7_soonest_X0_hasBits
set_option maxRecDepth 20000 in
theorem ggX7_soonest_X7_minutesAlone : GoodIn wsX7_soonest wsX7_minutesAlone := goodIn_r _ [20, 21, 3, 2, 22, 23, 24, 7, 25, 26, 27, 28, 29, 30, 9, 31, 32, 33, 34, 35, 36, 37, 38, 39, 40, 41, 42, 43, 44, 45, 46, 19, 47, 48, 49, 50, 51, 52, 5, 6, 8, 53, 54, 55, 56, 57, 58, 59, 60, 61, 62, 63, 64, 65, 66, 67, 68, 69, 70, 71, 72, 73, 74, 75, 76, 77, 78, 79, 80, 81, 82, 83, 84, 85, 86, 87, 88, 89, 90, 91, 92, 93, 94, 95, 96, 97, 98, 99, 100, 101, 102, 103] (by decide +kernel) (by decide +kernel)
set_option maxRecDepth 20000 in
theorem gX7_soonest_X7_minutesAlone : GoodIn wsX7_soonest (wsV RX7 191 RX7 yX7_minutesAlone wsX7_minutesAlone) := goodIn_app (goodIn_of _ (by decide +kernel)) ggX7_soonest_X7_minutesAlone
theorem dX7_soonest_0 : decode cX7_soonest 0 = .ok (.aload_n 0, 1) := by decide +kernel
theorem dX7_soonest_1 : decode cX7_soonest 1 = .ok (.getfield 30, 3) := by decide +kernel
theorem dX7_soonest_4 : decode cX7_soonest 4 = .ok (.iload_n 1, 1) := by decide +kernel
theorem dX7_soonest_5 : decode cX7_soonest 5 = .ok (.invokevirtual 132, 3) := by decide +kernel
theorem dX7_soonest_8 : decode cX7_soonest 8 = .ok (.ifCond .eq 25, 3) := by decide +kernel
theorem dX7_soonest_11 : decode cX7_soonest 11 = .ok (.aload_n 0, 1) := by decide +kernel
theorem dX7_soonest_12 : decode cX7_soonest 12 = .ok (.getfield 19, 3) := by decide +kernel
theorem dX7_soonest_15 : decode cX7_soonest 15 = .ok (.iload_n 2, 1) := by decide +kernel
theorem dX7_soonest_16 : decode cX7_soonest 16 = .ok (.invokevirtual 188, 3) := by decide +kernel
theorem dX7_soonest_19 : decode cX7_soonest 19 = .ok (.ifCond .eq 14, 3) := by decide +kernel
theorem dX7_soonest_22 : decode cX7_soonest 22 = .ok (.aload_n 0, 1) := by decide +kernel
theorem dX7_soonest_23 : decode cX7_soonest 23 = .ok (.getfield 19, 3) := by decide +kernel
theorem dX7_soonest_26 : decode cX7_soonest 26 = .ok (.iload_n 3, 1) := by decide +kernel
theorem dX7_soonest_27 : decode cX7_soonest 27 = .ok (.invokevirtual 188, 3) := by decide +kernel
theorem dX7_soonest_30 : decode cX7_soonest 30 = .ok (.ifCond .ne 6, 3) := by decide +kernel
theorem dX7_soonest_33 : decode cX7_soonest 33 = .ok (.bipush (-2), 2) := by decide +kernel
theorem dX7_soonest_35 : decode cX7_soonest 35 = .ok (.ireturn, 1) := by decide +kernel
theorem dX7_soonest_36 : decode cX7_soonest 36 = .ok (.iload 4, 2) := by decide +kernel
theorem dX7_soonest_38 : decode cX7_soonest 38 = .ok (.ifCond .lt 9, 3) := by decide +kernel
theorem dX7_soonest_41 : decode cX7_soonest 41 = .ok (.iload 4, 2) := by decide +kernel
theorem dX7_soonest_43 : decode cX7_soonest 43 = .ok (.iconst 1, 1) := by decide +kernel
theorem dX7_soonest_44 : decode cX7_soonest 44 = .ok (.if_icmp .le 6, 3) := by decide +kernel
theorem dX7_soonest_47 : decode cX7_soonest 47 = .ok (.bipush (-3), 2) := by decide +kernel
theorem dX7_soonest_49 : decode cX7_soonest 49 = .ok (.ireturn, 1) := by decide +kernel
theorem dX7_soonest_50 : decode cX7_soonest 50 = .ok (.iconst (-1), 1) := by decide +kernel
theorem dX7_soonest_51 : decode cX7_soonest 51 = .ok (.istore 5, 2) := by decide +kernel
theorem dX7_soonest_53 : decode cX7_soonest 53 = .ok (.iconst (-1), 1) := by decide +kernel
theorem dX7_soonest_54 : decode cX7_soonest 54 = .ok (.istore 6, 2) := by decide +kernel
theorem dX7_soonest_56 : decode cX7_soonest 56 = .ok (.iconst 0, 1) := by decide +kernel
theorem dX7_soonest_57 : decode cX7_soonest 57 = .ok (.istore 7, 2) := by decide +kernel
theorem dX7_soonest_59 : decode cX7_soonest 59 = .ok (.iload 7, 2) := by decide +kernel
theorem dX7_soonest_61 : decode cX7_soonest 61 = .ok (.iconst 5, 1) := by decide +kernel
theorem dX7_soonest_62 : decode cX7_soonest 62 = .ok (.if_icmp .ge 55, 3) := by decide +kernel
theorem dX7_soonest_65 : decode cX7_soonest 65 = .ok (.aload_n 0, 1) := by decide +kernel
theorem dX7_soonest_66 : decode cX7_soonest 66 = .ok (.aload_n 0, 1) := by decide +kernel
theorem dX7_soonest_67 : decode cX7_soonest 67 = .ok (.getfield 30, 3) := by decide +kernel
theorem dX7_soonest_70 : decode cX7_soonest 70 = .ok (.getfield 116, 3) := by decide +kernel
theorem dX7_soonest_73 : decode cX7_soonest 73 = .ok (.iload_n 1, 1) := by decide +kernel
theorem dX7_soonest_74 : decode cX7_soonest 74 = .ok (.iaload, 1) := by decide +kernel
theorem dX7_soonest_75 : decode cX7_soonest 75 = .ok (.iload 7, 2) := by decide +kernel
theorem dX7_soonest_77 : decode cX7_soonest 77 = .ok (.iload_n 2, 1) := by decide +kernel
theorem dX7_soonest_78 : decode cX7_soonest 78 = .ok (.iload_n 3, 1) := by decide +kernel
theorem dX7_soonest_79 : decode cX7_soonest 79 = .ok (.invokevirtual 191, 3) := by decide +kernel
theorem dX7_soonest_82 : decode cX7_soonest 82 = .ok (.istore 8, 2) := by decide +kernel
theorem dX7_soonest_84 : decode cX7_soonest 84 = .ok (.iload 8, 2) := by decide +kernel
theorem dX7_soonest_86 : decode cX7_soonest 86 = .ok (.iconst (-1), 1) := by decide +kernel
theorem dX7_soonest_87 : decode cX7_soonest 87 = .ok (.if_icmp .eq 24, 3) := by decide +kernel
theorem dX7_soonest_90 : decode cX7_soonest 90 = .ok (.iload 5, 2) := by decide +kernel
theorem dX7_soonest_92 : decode cX7_soonest 92 = .ok (.iconst (-1), 1) := by decide +kernel
theorem dX7_soonest_93 : decode cX7_soonest 93 = .ok (.if_icmp .eq 10, 3) := by decide +kernel
theorem dX7_soonest_96 : decode cX7_soonest 96 = .ok (.iload 8, 2) := by decide +kernel
theorem dX7_soonest_98 : decode cX7_soonest 98 = .ok (.iload 5, 2) := by decide +kernel
theorem dX7_soonest_100 : decode cX7_soonest 100 = .ok (.if_icmp .ge 11, 3) := by decide +kernel
theorem dX7_soonest_103 : decode cX7_soonest 103 = .ok (.iload 8, 2) := by decide +kernel
theorem dX7_soonest_105 : decode cX7_soonest 105 = .ok (.istore 5, 2) := by decide +kernel
theorem dX7_soonest_107 : decode cX7_soonest 107 = .ok (.iload 7, 2) := by decide +kernel
theorem dX7_soonest_109 : decode cX7_soonest 109 = .ok (.istore 6, 2) := by decide +kernel
theorem dX7_soonest_111 : decode cX7_soonest 111 = .ok (.iinc 7 1, 3) := by decide +kernel
theorem dX7_soonest_114 : decode cX7_soonest 114 = .ok (.goto (-55), 3) := by decide +kernel
theorem dX7_soonest_117 : decode cX7_soonest 117 = .ok (.iload 4, 2) := by decide +kernel
theorem dX7_soonest_119 : decode cX7_soonest 119 = .ok (.ifCond .ne 8, 3) := by decide +kernel
theorem dX7_soonest_122 : decode cX7_soonest 122 = .ok (.iload 5, 2) := by decide +kernel
theorem dX7_soonest_124 : decode cX7_soonest 124 = .ok (.goto 5, 3) := by decide +kernel
theorem dX7_soonest_127 : decode cX7_soonest 127 = .ok (.iload 6, 2) := by decide +kernel
theorem dX7_soonest_129 : decode cX7_soonest 129 = .ok (.ireturn, 1) := by decide +kernel
set_option maxRecDepth 20000 in
theorem ggX7_order_X3_hasMember : GoodIn wsX7_order wsX3_hasMember := goodIn_r _ [9, 10, 97, 98, 99, 100, 101, 102, 103, 104] (by decide +kernel) (by decide +kernel)
set_option maxRecDepth 20000 in
theorem gX7_order_X3_hasMember : GoodIn wsX7_order (wsV RX7 132 RX3 yX3_hasMember wsX3_hasMember) := goodIn_app (goodIn_of _ (by decide +kernel)) ggX7_order_X3_hasMember
set_option maxRecDepth 20000 in
theorem ggX7_order_X0_hasBits : GoodIn wsX7_order wsX0_hasBits := goodIn_r _ [15, 16, 105, 106, 107, 108] (by decide +kernel) (by decide +kernel)
set_option maxRecDepth 20000 in
theorem gX7_order_X0_hasBits : GoodIn wsX7_order (wsV RX7 188 RX0 yX0_hasBits wsX0_hasBits) := goodIn_app (goodIn_of _ (by decide +kernel)) ggX7_order_X0_hasBits
set_option maxRecDepth 20000 in
theorem ggX7_order_X7_rowOfKinds : GoodIn wsX7_order wsX7_rowOfKinds := goodIn_r _ [21, 22, 23, 20, 24, 25, 26, 27, 28, 29, 2, 4, 30, 31, 32, 8, 33, 34, 35, 36, 37, 38, 10, 39, 40, 41, 42, 43, 44, 45, 46, 47, 48, 49, 50, 51, 52, 53, 54, 55, 56, 57, 6, 7, 9, 58, 59, 60, 61, 62, 63, 64, 65, 66, 67, 68, 69, 70, 71, 72, 73, 74, 75, 76, 77, 78, 79, 80, 81, 82, 83, 17, 18, 19, 84, 85, 86, 87, 88, 89, 90, 91, 92, 93, 94, 95, 96, 97, 98, 99, 100, 101, 102, 103, 104, 105, 106, 107, 108] (by decide +kernel) (by decide +kernel)
set_option maxRecDepth 20000 in
theorem gX7_order_X7_rowOfKinds : GoodIn wsX7_order (wsV RX7 198 RX7 yX7_rowOfKinds wsX7_rowOfKinds) := goodIn_app (goodIn_of _ (by decide +kernel)) ggX7_order_X7_rowOfKinds
theorem dX7_order_0 : decode cX7_order 0 = .ok (.aload_n 0, 1) := by decide +kernel
theorem dX7_order_1 : decode cX7_order 1 = .ok (.getfield 30, 3) := by decide +kernel
theorem dX7_order_4 : decode cX7_order 4 = .ok (.iload_n 1, 1) := by decide +kernel
theorem dX7_order_5 : decode cX7_order 5 = .ok (.invokevirtual 132, 3) := by decide +kernel
theorem dX7_order_8 : decode cX7_order 8 = .ok (.ifCond .eq 25, 3) := by decide +kernel
theorem dX7_order_11 : decode cX7_order 11 = .ok (.aload_n 0, 1) := by decide +kernel
theorem dX7_order_12 : decode cX7_order 12 = .ok (.getfield 19, 3) := by decide +kernel
theorem dX7_order_15 : decode cX7_order 15 = .ok (.iload_n 2, 1) := by decide +kernel
theorem dX7_order_16 : decode cX7_order 16 = .ok (.invokevirtual 188, 3) := by decide +kernel
theorem dX7_order_19 : decode cX7_order 19 = .ok (.ifCond .eq 14, 3) := by decide +kernel
theorem dX7_order_22 : decode cX7_order 22 = .ok (.aload_n 0, 1) := by decide +kernel
theorem dX7_order_23 : decode cX7_order 23 = .ok (.getfield 19, 3) := by decide +kernel
theorem dX7_order_26 : decode cX7_order 26 = .ok (.iload_n 3, 1) := by decide +kernel
theorem dX7_order_27 : decode cX7_order 27 = .ok (.invokevirtual 188, 3) := by decide +kernel
theorem dX7_order_30 : decode cX7_order 30 = .ok (.ifCond .ne 6, 3) := by decide +kernel
theorem dX7_order_33 : decode cX7_order 33 = .ok (.bipush (-2), 2) := by decide +kernel
theorem dX7_order_35 : decode cX7_order 35 = .ok (.ireturn, 1) := by decide +kernel
theorem dX7_order_36 : decode cX7_order 36 = .ok (.iconst 0, 1) := by decide +kernel
theorem dX7_order_37 : decode cX7_order 37 = .ok (.istore 4, 2) := by decide +kernel
theorem dX7_order_39 : decode cX7_order 39 = .ok (.iload 4, 2) := by decide +kernel
theorem dX7_order_41 : decode cX7_order 41 = .ok (.getstatic 195, 3) := by decide +kernel
theorem dX7_order_44 : decode cX7_order 44 = .ok (.arraylength, 1) := by decide +kernel
theorem dX7_order_45 : decode cX7_order 45 = .ok (.if_icmp .ge 41, 3) := by decide +kernel
theorem dX7_order_48 : decode cX7_order 48 = .ok (.aload_n 0, 1) := by decide +kernel
theorem dX7_order_49 : decode cX7_order 49 = .ok (.aload_n 0, 1) := by decide +kernel
theorem dX7_order_50 : decode cX7_order 50 = .ok (.getfield 30, 3) := by decide +kernel
theorem dX7_order_53 : decode cX7_order 53 = .ok (.getfield 116, 3) := by decide +kernel
theorem dX7_order_56 : decode cX7_order 56 = .ok (.iload_n 1, 1) := by decide +kernel
theorem dX7_order_57 : decode cX7_order 57 = .ok (.iaload, 1) := by decide +kernel
theorem dX7_order_58 : decode cX7_order 58 = .ok (.iload_n 2, 1) := by decide +kernel
theorem dX7_order_59 : decode cX7_order 59 = .ok (.iload_n 3, 1) := by decide +kernel
theorem dX7_order_60 : decode cX7_order 60 = .ok (.getstatic 195, 3) := by decide +kernel
theorem dX7_order_63 : decode cX7_order 63 = .ok (.iload 4, 2) := by decide +kernel
theorem dX7_order_65 : decode cX7_order 65 = .ok (.iaload, 1) := by decide +kernel
theorem dX7_order_66 : decode cX7_order 66 = .ok (.invokevirtual 198, 3) := by decide +kernel
theorem dX7_order_69 : decode cX7_order 69 = .ok (.istore 5, 2) := by decide +kernel
theorem dX7_order_71 : decode cX7_order 71 = .ok (.iload 5, 2) := by decide +kernel
theorem dX7_order_73 : decode cX7_order 73 = .ok (.iconst (-1), 1) := by decide +kernel
theorem dX7_order_74 : decode cX7_order 74 = .ok (.if_icmp .eq 6, 3) := by decide +kernel
theorem dX7_order_77 : decode cX7_order 77 = .ok (.iload 5, 2) := by decide +kernel
theorem dX7_order_79 : decode cX7_order 79 = .ok (.ireturn, 1) := by decide +kernel
theorem dX7_order_80 : decode cX7_order 80 = .ok (.iinc 4 1, 3) := by decide +kernel
theorem dX7_order_83 : decode cX7_order 83 = .ok (.goto (-44), 3) := by decide +kernel
theorem dX7_order_86 : decode cX7_order 86 = .ok (.iconst (-1), 1) := by decide +kernel
theorem dX7_order_87 : decode cX7_order 87 = .ok (.ireturn, 1) := by decide +kernel
set_option maxRecDepth 20000 in
theorem ggX7_most_X3_hasLeech : GoodIn wsX7_most wsX3_hasLeech := goodIn_r _ [10, 11, 124, 125, 126, 127, 128, 129, 130, 131] (by decide +kernel) (by decide +kernel)
set_option maxRecDepth 20000 in
theorem gX7_most_X3_hasLeech : GoodIn wsX7_most (wsV RX7 150 RX3 yX3_hasLeech wsX3_hasLeech) := goodIn_app (goodIn_of _ (by decide +kernel)) ggX7_most_X3_hasLeech
set_option maxRecDepth 20000 in
theorem ggX7_most_X2_begin : GoodIn wsX7_most wsX2_begin := goodIn_r _ [16, 17, 18, 19, 20, 21, 22, 23, 24, 25, 26, 27, 28, 29, 9, 30, 11, 31, 124, 125, 126, 127, 128, 129, 130, 131, 132, 133, 134, 135, 136, 137, 138, 139, 140] (by decide +kernel) (by decide +kernel)
set_option maxRecDepth 20000 in
theorem gX7_most_X2_begin : GoodIn wsX7_most (wsV RX7 201 RX2 yX2_begin wsX2_begin) := goodIn_app (goodIn_of _ (by decide +kernel)) ggX7_most_X2_begin
set_option maxRecDepth 20000 in
theorem ggX7_most_X7_foretellPuts : GoodIn wsX7_most wsX7_foretellPuts := goodIn_r _ [36, 1, 37, 38, 2, 39, 40, 41, 28, 29, 9, 30, 11, 31, 42, 43, 44, 45, 46, 47, 48, 49, 50, 51, 52, 53, 54, 55, 56, 57, 58, 59, 60, 35, 61, 62, 63, 64, 65, 66, 67, 68, 69, 70, 71, 72, 73, 74, 75, 76, 77, 78, 79, 80, 81, 82, 83, 84, 85, 86, 87, 88, 89, 90, 91, 92, 93, 94, 95, 111, 112, 113, 114, 115, 116, 117, 118, 119, 120, 121, 122, 123, 132, 133, 134, 135, 136, 137, 138, 139, 140, 124, 125, 126, 127, 128, 129, 130, 131, 141, 142, 143, 144] (by decide +kernel) (by decide +kernel)
set_option maxRecDepth 20000 in
theorem gX7_most_X7_foretellPuts : GoodIn wsX7_most (wsV RX7 205 RX7 yX7_foretellPuts wsX7_foretellPuts) := goodIn_app (goodIn_of _ (by decide +kernel)) ggX7_most_X7_foretellPuts
set_option maxRecDepth 20000 in
theorem ggX7_most_X2_choose : GoodIn wsX7_most wsX2_choose := goodIn_r _ [99, 100, 101, 102, 15, 103, 20, 25, 21, 18, 24, 104, 105, 106, 107, 108, 22, 23, 26, 109, 51, 52, 53, 110, 80, 81, 82, 83, 84, 85, 60, 35, 61, 132, 133, 134, 135, 136, 137, 138, 139, 140] (by decide +kernel) (by decide +kernel)
set_option maxRecDepth 20000 in
theorem gX7_most_X2_choose : GoodIn wsX7_most (wsV RX7 209 RX2 yX2_choose wsX2_choose) := goodIn_app (goodIn_of _ (by decide +kernel)) ggX7_most_X2_choose
theorem dX7_most_0 : decode cX7_most 0 = .ok (.iload_n 3, 1) := by decide +kernel
theorem dX7_most_1 : decode cX7_most 1 = .ok (.iconst (-1), 1) := by decide +kernel
theorem dX7_most_2 : decode cX7_most 2 = .ok (.if_icmp .eq 17, 3) := by decide +kernel
theorem dX7_most_5 : decode cX7_most 5 = .ok (.aload_n 0, 1) := by decide +kernel
theorem dX7_most_6 : decode cX7_most 6 = .ok (.getfield 30, 3) := by decide +kernel
theorem dX7_most_9 : decode cX7_most 9 = .ok (.iload_n 3, 1) := by decide +kernel
theorem dX7_most_10 : decode cX7_most 10 = .ok (.invokevirtual 150, 3) := by decide +kernel
theorem dX7_most_13 : decode cX7_most 13 = .ok (.ifCond .ne 6, 3) := by decide +kernel
theorem dX7_most_16 : decode cX7_most 16 = .ok (.bipush (-2), 2) := by decide +kernel
theorem dX7_most_18 : decode cX7_most 18 = .ok (.ireturn, 1) := by decide +kernel
theorem dX7_most_19 : decode cX7_most 19 = .ok (.iload_n 1, 1) := by decide +kernel
theorem dX7_most_20 : decode cX7_most 20 = .ok (.ifCond .lt 19, 3) := by decide +kernel
theorem dX7_most_23 : decode cX7_most 23 = .ok (.iload_n 1, 1) := by decide +kernel
theorem dX7_most_24 : decode cX7_most 24 = .ok (.bipush 12, 2) := by decide +kernel
theorem dX7_most_26 : decode cX7_most 26 = .ok (.if_icmp .gt 13, 3) := by decide +kernel
theorem dX7_most_29 : decode cX7_most 29 = .ok (.iload_n 2, 1) := by decide +kernel
theorem dX7_most_30 : decode cX7_most 30 = .ok (.ifCond .lt 9, 3) := by decide +kernel
theorem dX7_most_33 : decode cX7_most 33 = .ok (.iload_n 2, 1) := by decide +kernel
theorem dX7_most_34 : decode cX7_most 34 = .ok (.bipush 10, 2) := by decide +kernel
theorem dX7_most_36 : decode cX7_most 36 = .ok (.if_icmp .le 6, 3) := by decide +kernel
theorem dX7_most_39 : decode cX7_most 39 = .ok (.bipush (-3), 2) := by decide +kernel
theorem dX7_most_41 : decode cX7_most 41 = .ok (.ireturn, 1) := by decide +kernel
theorem dX7_most_42 : decode cX7_most 42 = .ok (.aload_n 0, 1) := by decide +kernel
theorem dX7_most_43 : decode cX7_most 43 = .ok (.getfield 53, 3) := by decide +kernel
theorem dX7_most_46 : decode cX7_most 46 = .ok (.aload_n 0, 1) := by decide +kernel
theorem dX7_most_47 : decode cX7_most 47 = .ok (.getfield 30, 3) := by decide +kernel
theorem dX7_most_50 : decode cX7_most 50 = .ok (.iload_n 1, 1) := by decide +kernel
theorem dX7_most_51 : decode cX7_most 51 = .ok (.invokevirtual 201, 3) := by decide +kernel
theorem dX7_most_54 : decode cX7_most 54 = .ok (.iconst 0, 1) := by decide +kernel
theorem dX7_most_55 : decode cX7_most 55 = .ok (.istore 4, 2) := by decide +kernel
theorem dX7_most_57 : decode cX7_most 57 = .ok (.iload 4, 2) := by decide +kernel
theorem dX7_most_59 : decode cX7_most 59 = .ok (.aload_n 0, 1) := by decide +kernel
theorem dX7_most_60 : decode cX7_most 60 = .ok (.getfield 30, 3) := by decide +kernel
theorem dX7_most_63 : decode cX7_most 63 = .ok (.getfield 119, 3) := by decide +kernel
theorem dX7_most_66 : decode cX7_most 66 = .ok (.if_icmp .ge 16, 3) := by decide +kernel
theorem dX7_most_69 : decode cX7_most 69 = .ok (.aload_n 0, 1) := by decide +kernel
theorem dX7_most_70 : decode cX7_most 70 = .ok (.iload 4, 2) := by decide +kernel
theorem dX7_most_72 : decode cX7_most 72 = .ok (.iload_n 2, 1) := by decide +kernel
theorem dX7_most_73 : decode cX7_most 73 = .ok (.invokevirtual 205, 3) := by decide +kernel
theorem dX7_most_76 : decode cX7_most 76 = .ok (.iinc 4 1, 3) := by decide +kernel
theorem dX7_most_79 : decode cX7_most 79 = .ok (.goto (-22), 3) := by decide +kernel
theorem dX7_most_82 : decode cX7_most 82 = .ok (.aload_n 0, 1) := by decide +kernel
theorem dX7_most_83 : decode cX7_most 83 = .ok (.getfield 53, 3) := by decide +kernel
theorem dX7_most_86 : decode cX7_most 86 = .ok (.invokevirtual 209, 3) := by decide +kernel
theorem dX7_most_89 : decode cX7_most 89 = .ok (.iload_n 3, 1) := by decide +kernel
theorem dX7_most_90 : decode cX7_most 90 = .ok (.iconst (-1), 1) := by decide +kernel
theorem dX7_most_91 : decode cX7_most 91 = .ok (.if_icmp .ne 13, 3) := by decide +kernel
theorem dX7_most_94 : decode cX7_most 94 = .ok (.aload_n 0, 1) := by decide +kernel
theorem dX7_most_95 : decode cX7_most 95 = .ok (.getfield 53, 3) := by decide +kernel
theorem dX7_most_98 : decode cX7_most 98 = .ok (.getfield 212, 3) := by decide +kernel
theorem dX7_most_101 : decode cX7_most 101 = .ok (.goto 12, 3) := by decide +kernel
theorem dX7_most_104 : decode cX7_most 104 = .ok (.aload_n 0, 1) := by decide +kernel
theorem dX7_most_105 : decode cX7_most 105 = .ok (.getfield 53, 3) := by decide +kernel
theorem dX7_most_108 : decode cX7_most 108 = .ok (.getfield 215, 3) := by decide +kernel
theorem dX7_most_111 : decode cX7_most 111 = .ok (.iload_n 3, 1) := by decide +kernel
theorem dX7_most_112 : decode cX7_most 112 = .ok (.iaload, 1) := by decide +kernel
theorem dX7_most_113 : decode cX7_most 113 = .ok (.ireturn, 1) := by decide +kernel
set_option maxRecDepth 20000 in
theorem ggX7_sound_X0_hasFact : GoodIn wsX7_sound wsX0_hasFact := goodIn_r _ [11, 12, 47, 48, 49, 50] (by decide +kernel) (by decide +kernel)
set_option maxRecDepth 20000 in
theorem gX7_sound_X0_hasFact : GoodIn wsX7_sound (wsV RX7 106 RX0 yX0_hasFact wsX0_hasFact) := goodIn_app (goodIn_of _ (by decide +kernel)) ggX7_sound_X0_hasFact
set_option maxRecDepth 20000 in
theorem ggX7_sound_J6_bitCount_0f7a4 : GoodIn wsX7_sound wsJ6_bitCount_0f7a4 := goodIn_r _ [16, 17, 18, 19] (by decide +kernel) (by decide +kernel)
set_option maxRecDepth 20000 in
theorem gX7_sound_J6_bitCount_0f7a4 : GoodIn wsX7_sound (va_wsS RX7 182 yJ6_bitCount_0f7a4 wsJ6_bitCount_0f7a4) := goodIn_app (goodIn_of _ (by decide +kernel)) ggX7_sound_J6_bitCount_0f7a4
set_option maxRecDepth 20000 in
theorem ggX7_sound_X1_setLowest : GoodIn wsX7_sound wsX1_setLowest := goodIn_r _ [24, 25, 26, 27, 28, 29, 30, 31, 32, 23, 33, 51, 52] (by decide +kernel) (by decide +kernel)
set_option maxRecDepth 20000 in
theorem gX7_sound_X1_setLowest : GoodIn wsX7_sound (wsV RX7 220 RX1 yX1_setLowest wsX1_setLowest) := goodIn_app (goodIn_of _ (by decide +kernel)) ggX7_sound_X1_setLowest
theorem dX7_sound_0 : decode cX7_sound 0 = .ok (.aload_n 0, 1) := by decide +kernel
theorem dX7_sound_1 : decode cX7_sound 1 = .ok (.getfield 19, 3) := by decide +kernel
theorem dX7_sound_4 : decode cX7_sound 4 = .ok (.iload_n 1, 1) := by decide +kernel
theorem dX7_sound_5 : decode cX7_sound 5 = .ok (.invokevirtual 106, 3) := by decide +kernel
theorem dX7_sound_8 : decode cX7_sound 8 = .ok (.ifCond .ne 6, 3) := by decide +kernel
theorem dX7_sound_11 : decode cX7_sound 11 = .ok (.bipush (-2), 2) := by decide +kernel
theorem dX7_sound_13 : decode cX7_sound 13 = .ok (.ireturn, 1) := by decide +kernel
theorem dX7_sound_14 : decode cX7_sound 14 = .ok (.iload_n 2, 1) := by decide +kernel
theorem dX7_sound_15 : decode cX7_sound 15 = .ok (.ifCond .lt 17, 3) := by decide +kernel
theorem dX7_sound_18 : decode cX7_sound 18 = .ok (.iload_n 2, 1) := by decide +kernel
theorem dX7_sound_19 : decode cX7_sound 19 = .ok (.iconst 5, 1) := by decide +kernel
theorem dX7_sound_20 : decode cX7_sound 20 = .ok (.if_icmp .gt 12, 3) := by decide +kernel
theorem dX7_sound_23 : decode cX7_sound 23 = .ok (.iload_n 3, 1) := by decide +kernel
theorem dX7_sound_24 : decode cX7_sound 24 = .ok (.ifCond .lt 8, 3) := by decide +kernel
theorem dX7_sound_27 : decode cX7_sound 27 = .ok (.iload_n 3, 1) := by decide +kernel
theorem dX7_sound_28 : decode cX7_sound 28 = .ok (.iconst 1, 1) := by decide +kernel
theorem dX7_sound_29 : decode cX7_sound 29 = .ok (.if_icmp .le 6, 3) := by decide +kernel
theorem dX7_sound_32 : decode cX7_sound 32 = .ok (.bipush (-3), 2) := by decide +kernel
theorem dX7_sound_34 : decode cX7_sound 34 = .ok (.ireturn, 1) := by decide +kernel
theorem dX7_sound_35 : decode cX7_sound 35 = .ok (.lconst 1, 1) := by decide +kernel
theorem dX7_sound_36 : decode cX7_sound 36 = .ok (.lstore 4, 2) := by decide +kernel
theorem dX7_sound_38 : decode cX7_sound 38 = .ok (.lconst 1, 1) := by decide +kernel
theorem dX7_sound_39 : decode cX7_sound 39 = .ok (.lstore 6, 2) := by decide +kernel
theorem dX7_sound_41 : decode cX7_sound 41 = .ok (.aload_n 0, 1) := by decide +kernel
theorem dX7_sound_42 : decode cX7_sound 42 = .ok (.getfield 19, 3) := by decide +kernel
theorem dX7_sound_45 : decode cX7_sound 45 = .ok (.getfield 113, 3) := by decide +kernel
theorem dX7_sound_48 : decode cX7_sound 48 = .ok (.iload_n 1, 1) := by decide +kernel
theorem dX7_sound_49 : decode cX7_sound 49 = .ok (.iaload, 1) := by decide +kernel
theorem dX7_sound_50 : decode cX7_sound 50 = .ok (.invokestatic 182, 3) := by decide +kernel
theorem dX7_sound_53 : decode cX7_sound 53 = .ok (.istore 8, 2) := by decide +kernel
theorem dX7_sound_55 : decode cX7_sound 55 = .ok (.iload 8, 2) := by decide +kernel
theorem dX7_sound_57 : decode cX7_sound 57 = .ok (.ifCond .le 24, 3) := by decide +kernel
theorem dX7_sound_60 : decode cX7_sound 60 = .ok (.lload 4, 2) := by decide +kernel
theorem dX7_sound_62 : decode cX7_sound 62 = .ok (.iload_n 2, 1) := by decide +kernel
theorem dX7_sound_63 : decode cX7_sound 63 = .ok (.i2l, 1) := by decide +kernel
theorem dX7_sound_64 : decode cX7_sound 64 = .ok (.lmul, 1) := by decide +kernel
theorem dX7_sound_65 : decode cX7_sound 65 = .ok (.lstore 4, 2) := by decide +kernel
theorem dX7_sound_67 : decode cX7_sound 67 = .ok (.lload 6, 2) := by decide +kernel
theorem dX7_sound_69 : decode cX7_sound 69 = .ok (.ldc2_w 218, 3) := by decide +kernel
theorem dX7_sound_72 : decode cX7_sound 72 = .ok (.lmul, 1) := by decide +kernel
theorem dX7_sound_73 : decode cX7_sound 73 = .ok (.lstore 6, 2) := by decide +kernel
theorem dX7_sound_75 : decode cX7_sound 75 = .ok (.iinc 8 (-1), 3) := by decide +kernel
theorem dX7_sound_78 : decode cX7_sound 78 = .ok (.goto (-23), 3) := by decide +kernel
theorem dX7_sound_81 : decode cX7_sound 81 = .ok (.aload_n 0, 1) := by decide +kernel
theorem dX7_sound_82 : decode cX7_sound 82 = .ok (.getfield 66, 3) := by decide +kernel
theorem dX7_sound_85 : decode cX7_sound 85 = .ok (.lload 4, 2) := by decide +kernel
theorem dX7_sound_87 : decode cX7_sound 87 = .ok (.lload 6, 2) := by decide +kernel
theorem dX7_sound_89 : decode cX7_sound 89 = .ok (.invokevirtual 220, 3) := by decide +kernel
theorem dX7_sound_92 : decode cX7_sound 92 = .ok (.iload_n 3, 1) := by decide +kernel
theorem dX7_sound_93 : decode cX7_sound 93 = .ok (.ifCond .ne 13, 3) := by decide +kernel
theorem dX7_sound_96 : decode cX7_sound 96 = .ok (.aload_n 0, 1) := by decide +kernel
theorem dX7_sound_97 : decode cX7_sound 97 = .ok (.getfield 66, 3) := by decide +kernel
theorem dX7_sound_100 : decode cX7_sound 100 = .ok (.getfield 143, 3) := by decide +kernel
theorem dX7_sound_103 : decode cX7_sound 103 = .ok (.goto 10, 3) := by decide +kernel
theorem dX7_sound_106 : decode cX7_sound 106 = .ok (.aload_n 0, 1) := by decide +kernel
theorem dX7_sound_107 : decode cX7_sound 107 = .ok (.getfield 66, 3) := by decide +kernel
theorem dX7_sound_110 : decode cX7_sound 110 = .ok (.getfield 147, 3) := by decide +kernel
theorem dX7_sound_113 : decode cX7_sound 113 = .ok (.l2i, 1) := by decide +kernel
theorem dX7_sound_114 : decode cX7_sound 114 = .ok (.ireturn, 1) := by decide +kernel
set_option maxRecDepth 20000 in
theorem ggX7_seen_X3_hasMember : GoodIn wsX7_seen wsX3_hasMember := goodIn_r _ [9, 10, 45, 46, 47, 48, 49, 50, 51, 52] (by decide +kernel) (by decide +kernel)
set_option maxRecDepth 20000 in
theorem gX7_seen_X3_hasMember : GoodIn wsX7_seen (wsV RX7 132 RX3 yX3_hasMember wsX3_hasMember) := goodIn_app (goodIn_of _ (by decide +kernel)) ggX7_seen_X3_hasMember
set_option maxRecDepth 20000 in
theorem ggX7_seen_X0_hasFact : GoodIn wsX7_seen wsX0_hasFact := goodIn_r _ [15, 16, 53, 54, 55, 56] (by decide +kernel) (by decide +kernel)
set_option maxRecDepth 20000 in
theorem gX7_seen_X0_hasFact : GoodIn wsX7_seen (wsV RX7 106 RX0 yX0_hasFact wsX0_hasFact) := goodIn_app (goodIn_of _ (by decide +kernel)) ggX7_seen_X0_hasFact
set_option maxRecDepth 20000 in
theorem ggX7_seen_X4_add : GoodIn wsX7_seen wsX4_add := goodIn_r _ [21, 22, 23, 24, 25, 26, 40, 41, 42, 43, 44] (by decide +kernel) (by decide +kernel)
set_option maxRecDepth 20000 in
theorem gX7_seen_X4_add : GoodIn wsX7_seen (wsV RX7 224 RX4 yX4_add wsX4_add) := goodIn_app (goodIn_of _ (by decide +kernel)) ggX7_seen_X4_add
theorem dX7_seen_0 : decode cX7_seen 0 = .ok (.aload_n 0, 1) := by decide +kernel
theorem dX7_seen_1 : decode cX7_seen 1 = .ok (.getfield 30, 3) := by decide +kernel
theorem dX7_seen_4 : decode cX7_seen 4 = .ok (.iload_n 1, 1) := by decide +kernel
theorem dX7_seen_5 : decode cX7_seen 5 = .ok (.invokevirtual 132, 3) := by decide +kernel
theorem dX7_seen_8 : decode cX7_seen 8 = .ok (.ifCond .eq 14, 3) := by decide +kernel
theorem dX7_seen_11 : decode cX7_seen 11 = .ok (.aload_n 0, 1) := by decide +kernel
theorem dX7_seen_12 : decode cX7_seen 12 = .ok (.getfield 19, 3) := by decide +kernel
theorem dX7_seen_15 : decode cX7_seen 15 = .ok (.iload_n 3, 1) := by decide +kernel
theorem dX7_seen_16 : decode cX7_seen 16 = .ok (.invokevirtual 106, 3) := by decide +kernel
theorem dX7_seen_19 : decode cX7_seen 19 = .ok (.ifCond .ne 6, 3) := by decide +kernel
theorem dX7_seen_22 : decode cX7_seen 22 = .ok (.bipush (-2), 2) := by decide +kernel
theorem dX7_seen_24 : decode cX7_seen 24 = .ok (.ireturn, 1) := by decide +kernel
theorem dX7_seen_25 : decode cX7_seen 25 = .ok (.iload_n 2, 1) := by decide +kernel
theorem dX7_seen_26 : decode cX7_seen 26 = .ok (.iconst 1, 1) := by decide +kernel
theorem dX7_seen_27 : decode cX7_seen 27 = .ok (.if_icmp .lt 20, 3) := by decide +kernel
theorem dX7_seen_30 : decode cX7_seen 30 = .ok (.iload_n 2, 1) := by decide +kernel
theorem dX7_seen_31 : decode cX7_seen 31 = .ok (.bipush 6, 2) := by decide +kernel
theorem dX7_seen_33 : decode cX7_seen 33 = .ok (.if_icmp .gt 14, 3) := by decide +kernel
theorem dX7_seen_36 : decode cX7_seen 36 = .ok (.iload 4, 2) := by decide +kernel
theorem dX7_seen_38 : decode cX7_seen 38 = .ok (.ifCond .lt 9, 3) := by decide +kernel
theorem dX7_seen_41 : decode cX7_seen 41 = .ok (.iload 4, 2) := by decide +kernel
theorem dX7_seen_43 : decode cX7_seen 43 = .ok (.iconst 1, 1) := by decide +kernel
theorem dX7_seen_44 : decode cX7_seen 44 = .ok (.if_icmp .le 6, 3) := by decide +kernel
theorem dX7_seen_47 : decode cX7_seen 47 = .ok (.bipush (-3), 2) := by decide +kernel
theorem dX7_seen_49 : decode cX7_seen 49 = .ok (.ireturn, 1) := by decide +kernel
theorem dX7_seen_50 : decode cX7_seen 50 = .ok (.aload_n 0, 1) := by decide +kernel
theorem dX7_seen_51 : decode cX7_seen 51 = .ok (.getfield 46, 3) := by decide +kernel
theorem dX7_seen_54 : decode cX7_seen 54 = .ok (.getfield 100, 3) := by decide +kernel
theorem dX7_seen_57 : decode cX7_seen 57 = .ok (.bipush 6, 2) := by decide +kernel
theorem dX7_seen_59 : decode cX7_seen 59 = .ok (.if_icmp .lt 6, 3) := by decide +kernel
theorem dX7_seen_62 : decode cX7_seen 62 = .ok (.bipush (-5), 2) := by decide +kernel
theorem dX7_seen_64 : decode cX7_seen 64 = .ok (.ireturn, 1) := by decide +kernel
theorem dX7_seen_65 : decode cX7_seen 65 = .ok (.aload_n 0, 1) := by decide +kernel
theorem dX7_seen_66 : decode cX7_seen 66 = .ok (.getfield 46, 3) := by decide +kernel
theorem dX7_seen_69 : decode cX7_seen 69 = .ok (.iload_n 1, 1) := by decide +kernel
theorem dX7_seen_70 : decode cX7_seen 70 = .ok (.iload_n 2, 1) := by decide +kernel
theorem dX7_seen_71 : decode cX7_seen 71 = .ok (.iload_n 3, 1) := by decide +kernel
theorem dX7_seen_72 : decode cX7_seen 72 = .ok (.iload 4, 2) := by decide +kernel
theorem dX7_seen_74 : decode cX7_seen 74 = .ok (.invokevirtual 224, 3) := by decide +kernel
theorem dX7_seen_77 : decode cX7_seen 77 = .ok (.aload_n 0, 1) := by decide +kernel
theorem dX7_seen_78 : decode cX7_seen 78 = .ok (.getfield 46, 3) := by decide +kernel
theorem dX7_seen_81 : decode cX7_seen 81 = .ok (.getfield 100, 3) := by decide +kernel
theorem dX7_seen_84 : decode cX7_seen 84 = .ok (.ireturn, 1) := by decide +kernel
theorem dX7_forget_0 : decode cX7_forget 0 = .ok (.aload_n 0, 1) := by decide +kernel
theorem dX7_forget_1 : decode cX7_forget 1 = .ok (.getfield 46, 3) := by decide +kernel
theorem dX7_forget_4 : decode cX7_forget 4 = .ok (.getfield 100, 3) := by decide +kernel
theorem dX7_forget_7 : decode cX7_forget 7 = .ok (.istore_n 1, 1) := by decide +kernel
theorem dX7_forget_8 : decode cX7_forget 8 = .ok (.aload_n 0, 1) := by decide +kernel
theorem dX7_forget_9 : decode cX7_forget 9 = .ok (.getfield 46, 3) := by decide +kernel
theorem dX7_forget_12 : decode cX7_forget 12 = .ok (.iconst 0, 1) := by decide +kernel
theorem dX7_forget_13 : decode cX7_forget 13 = .ok (.putfield 100, 3) := by decide +kernel
theorem dX7_forget_16 : decode cX7_forget 16 = .ok (.iload_n 1, 1) := by decide +kernel
theorem dX7_forget_17 : decode cX7_forget 17 = .ok (.ireturn, 1) := by decide +kernel
set_option maxRecDepth 20000 in
theorem ggX7_kinds_X7_kindsThatFit : GoodIn wsX7_kinds wsX7_kindsThatFit := goodIn_r _ [5, 6, 7, 8, 4, 9, 10, 11, 12, 13, 14, 15, 16, 17, 18, 19, 20, 21, 22, 23, 24, 25, 26, 27, 28, 29, 30, 31, 32, 33, 34, 35, 36, 37, 38, 39, 40, 41, 42, 43, 44, 45, 46, 47, 48, 49, 50, 51, 52, 53, 54, 55, 56, 57, 58, 59, 60, 61, 62, 63, 64, 65, 66, 67, 68, 69, 70, 71, 72, 73, 74, 75, 76, 77, 78, 79, 80, 81, 82, 83, 84, 85, 86, 87, 88, 89, 90, 91, 92, 93, 94, 95, 96, 97, 98, 99, 100, 101, 102, 103, 104, 105, 106, 107, 108, 109, 110, 111, 112, 113] (by decide +kernel) (by decide +kernel)
set_option maxRecDepth 20000 in
theorem gX7_kinds_X7_kindsThatFit : GoodIn wsX7_kinds (wsV RX7 228 RX7 yX7_kindsThatFit wsX7_kindsThatFit) := goodIn_app (goodIn_of _ (by decide +kernel)) ggX7_kinds_X7_kindsThatFit
theorem dX7_kinds_0 : decode cX7_kinds 0 = .ok (.aload_n 0, 1) := by decide +kernel
theorem dX7_kinds_1 : decode cX7_kinds 1 = .ok (.invokevirtual 228, 3) := by decide +kernel
theorem dX7_kinds_4 : decode cX7_kinds 4 = .ok (.ireturn, 1) := by decide +kernel
set_option maxRecDepth 20000 in
theorem ggX7_ask_X3_hasMember : GoodIn wsX7_ask wsX3_hasMember := goodIn_r _ [9, 10, 114, 115, 116, 117, 118, 119, 120, 121] (by decide +kernel) (by decide +kernel)
set_option maxRecDepth 20000 in
theorem gX7_ask_X3_hasMember : GoodIn wsX7_ask (wsV RX7 132 RX3 yX3_hasMember wsX3_hasMember) := goodIn_app (goodIn_of _ (by decide +kernel)) ggX7_ask_X3_hasMember
set_option maxRecDepth 20000 in
theorem ggX7_ask_X7_kindsThatFit : GoodIn wsX7_ask wsX7_kindsThatFit := goodIn_r _ [15, 16, 17, 18, 14, 19, 20, 21, 22, 1, 4, 23, 24, 25, 5, 6, 7, 8, 9, 10, 26, 27, 28, 29, 30, 2, 31, 32, 33, 34, 35, 36, 37, 38, 39, 40, 41, 42, 43, 44, 45, 46, 47, 48, 49, 50, 51, 52, 53, 54, 55, 56, 57, 58, 59, 60, 61, 62, 63, 64, 65, 66, 67, 68, 69, 70, 71, 72, 73, 74, 75, 76, 77, 78, 79, 80, 81, 82, 83, 84, 97, 98, 99, 100, 101, 102, 103, 104, 105, 106, 107, 108, 109, 122, 123, 124, 125, 126, 114, 115, 116, 117, 118, 119, 120, 121, 110, 111, 112, 113] (by decide +kernel) (by decide +kernel)
set_option maxRecDepth 20000 in
theorem gX7_ask_X7_kindsThatFit : GoodIn wsX7_ask (wsV RX7 228 RX7 yX7_kindsThatFit wsX7_kindsThatFit) := goodIn_app (goodIn_of _ (by decide +kernel)) ggX7_ask_X7_kindsThatFit
set_option maxRecDepth 20000 in
theorem ggX7_ask_J6_bitCount_0f7a4 : GoodIn wsX7_ask wsJ6_bitCount_0f7a4 := goodIn_r _ [71, 72, 73, 74] (by decide +kernel) (by decide +kernel)
set_option maxRecDepth 20000 in
theorem gX7_ask_J6_bitCount_0f7a4 : GoodIn wsX7_ask (va_wsS RX7 182 yJ6_bitCount_0f7a4 wsJ6_bitCount_0f7a4) := goodIn_app (goodIn_of _ (by decide +kernel)) ggX7_ask_J6_bitCount_0f7a4
set_option maxRecDepth 20000 in
theorem ggX7_ask_X7_greatestPart : GoodIn wsX7_ask wsX7_greatestPart := goodIn_r _ [89, 90, 91, 92, 93, 94, 95, 14, 96, 26, 27, 28, 29, 30, 2, 4, 31, 32, 33, 8, 34, 35, 36, 37, 38, 39, 10, 40, 41, 42, 43, 44, 45, 46, 47, 48, 49, 50, 51, 52, 53, 54, 55, 56, 57, 58, 6, 7, 9, 59, 60, 61, 62, 63, 64, 65, 66, 67, 68, 69, 70, 71, 72, 73, 74, 75, 76, 77, 78, 79, 80, 81, 82, 83, 84, 85, 97, 98, 99, 100, 101, 102, 103, 104, 105, 106, 107, 108, 109, 114, 115, 116, 117, 118, 119, 120, 121, 110, 111, 112, 113] (by decide +kernel) (by decide +kernel)
set_option maxRecDepth 20000 in
theorem gX7_ask_X7_greatestPart : GoodIn wsX7_ask (wsV RX7 232 RX7 yX7_greatestPart wsX7_greatestPart) := goodIn_app (goodIn_of _ (by decide +kernel)) ggX7_ask_X7_greatestPart
theorem dX7_ask_0 : decode cX7_ask 0 = .ok (.aload_n 0, 1) := by decide +kernel
theorem dX7_ask_1 : decode cX7_ask 1 = .ok (.getfield 30, 3) := by decide +kernel
theorem dX7_ask_4 : decode cX7_ask 4 = .ok (.iload_n 1, 1) := by decide +kernel
theorem dX7_ask_5 : decode cX7_ask 5 = .ok (.invokevirtual 132, 3) := by decide +kernel
theorem dX7_ask_8 : decode cX7_ask 8 = .ok (.ifCond .ne 6, 3) := by decide +kernel
theorem dX7_ask_11 : decode cX7_ask 11 = .ok (.bipush (-2), 2) := by decide +kernel
theorem dX7_ask_13 : decode cX7_ask 13 = .ok (.ireturn, 1) := by decide +kernel
theorem dX7_ask_14 : decode cX7_ask 14 = .ok (.iload_n 2, 1) := by decide +kernel
theorem dX7_ask_15 : decode cX7_ask 15 = .ok (.iconst 1, 1) := by decide +kernel
theorem dX7_ask_16 : decode cX7_ask 16 = .ok (.if_icmp .lt 9, 3) := by decide +kernel
theorem dX7_ask_19 : decode cX7_ask 19 = .ok (.iload_n 2, 1) := by decide +kernel
theorem dX7_ask_20 : decode cX7_ask 20 = .ok (.bipush 6, 2) := by decide +kernel
theorem dX7_ask_22 : decode cX7_ask 22 = .ok (.if_icmp .le 6, 3) := by decide +kernel
theorem dX7_ask_25 : decode cX7_ask 25 = .ok (.bipush (-3), 2) := by decide +kernel
theorem dX7_ask_27 : decode cX7_ask 27 = .ok (.ireturn, 1) := by decide +kernel
theorem dX7_ask_28 : decode cX7_ask 28 = .ok (.aload_n 0, 1) := by decide +kernel
theorem dX7_ask_29 : decode cX7_ask 29 = .ok (.invokevirtual 228, 3) := by decide +kernel
theorem dX7_ask_32 : decode cX7_ask 32 = .ok (.istore_n 3, 1) := by decide +kernel
theorem dX7_ask_33 : decode cX7_ask 33 = .ok (.iconst (-1), 1) := by decide +kernel
theorem dX7_ask_34 : decode cX7_ask 34 = .ok (.istore 4, 2) := by decide +kernel
theorem dX7_ask_36 : decode cX7_ask 36 = .ok (.iload_n 3, 1) := by decide +kernel
theorem dX7_ask_37 : decode cX7_ask 37 = .ok (.invokestatic 182, 3) := by decide +kernel
theorem dX7_ask_40 : decode cX7_ask 40 = .ok (.istore 5, 2) := by decide +kernel
theorem dX7_ask_42 : decode cX7_ask 42 = .ok (.iconst 0, 1) := by decide +kernel
theorem dX7_ask_43 : decode cX7_ask 43 = .ok (.istore 6, 2) := by decide +kernel
theorem dX7_ask_45 : decode cX7_ask 45 = .ok (.iload 6, 2) := by decide +kernel
theorem dX7_ask_47 : decode cX7_ask 47 = .ok (.aload_n 0, 1) := by decide +kernel
theorem dX7_ask_48 : decode cX7_ask 48 = .ok (.getfield 19, 3) := by decide +kernel
theorem dX7_ask_51 : decode cX7_ask 51 = .ok (.getfield 187, 3) := by decide +kernel
theorem dX7_ask_54 : decode cX7_ask 54 = .ok (.if_icmp .ge 43, 3) := by decide +kernel
theorem dX7_ask_57 : decode cX7_ask 57 = .ok (.aload_n 0, 1) := by decide +kernel
theorem dX7_ask_58 : decode cX7_ask 58 = .ok (.aload_n 0, 1) := by decide +kernel
theorem dX7_ask_59 : decode cX7_ask 59 = .ok (.getfield 30, 3) := by decide +kernel
theorem dX7_ask_62 : decode cX7_ask 62 = .ok (.getfield 116, 3) := by decide +kernel
theorem dX7_ask_65 : decode cX7_ask 65 = .ok (.iload_n 1, 1) := by decide +kernel
theorem dX7_ask_66 : decode cX7_ask 66 = .ok (.iaload, 1) := by decide +kernel
theorem dX7_ask_67 : decode cX7_ask 67 = .ok (.iload_n 2, 1) := by decide +kernel
theorem dX7_ask_68 : decode cX7_ask 68 = .ok (.iload 6, 2) := by decide +kernel
theorem dX7_ask_70 : decode cX7_ask 70 = .ok (.iload_n 3, 1) := by decide +kernel
