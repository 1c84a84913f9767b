theorem inJ6 : ∀ w ∈ wsJ60, w ∈ lw_tbl := by decide +kernel
theorem inJ9 : ∀ w ∈ wsJ90, w ∈ lw_tbl := by decide +kernel
theorem inJ0 : ∀ w ∈ wsJ00, w ∈ lw_tbl := by decide +kernel
theorem inJ1 : ∀ w ∈ wsJ10, w ∈ lw_tbl := by decide +kernel
theorem inJ2 : ∀ w ∈ wsJ20, w ∈ lw_tbl := by decide +kernel
theorem inJ10 : ∀ w ∈ wsJ100, w ∈ lw_tbl := by decide +kernel
theorem inJ3 : ∀ w ∈ wsJ30, w ∈ lw_tbl := by decide +kernel
theorem dX0_init_0 : decode cX0_init 0 = .ok (.aload_n 0, 1) := by decide +kernel
theorem dX0_init_1 : decode cX0_init 1 = .ok (.invokespecial 3, 3) := by decide +kernel
theorem dX0_init_4 : decode cX0_init 4 = .ok (.aload_n 0, 1) := by decide +kernel
theorem dX0_init_5 : decode cX0_init 5 = .ok (.bipush 12, 2) := by decide +kernel
theorem dX0_init_7 : decode cX0_init 7 = .ok (.newarray .int, 2) := by decide +kernel
theorem dX0_init_9 : decode cX0_init 9 = .ok (.putfield 9, 3) := by decide +kernel
theorem dX0_init_12 : decode cX0_init 12 = .ok (.aload_n 0, 1) := by decide +kernel
theorem dX0_init_13 : decode cX0_init 13 = .ok (.bipush 12, 2) := by decide +kernel
theorem dX0_init_15 : decode cX0_init 15 = .ok (.newarray .int, 2) := by decide +kernel
theorem dX0_init_17 : decode cX0_init 17 = .ok (.putfield 15, 3) := by decide +kernel
theorem dX0_init_20 : decode cX0_init 20 = .ok (.aload_n 0, 1) := by decide +kernel
theorem dX0_init_21 : decode cX0_init 21 = .ok (.bipush 12, 2) := by decide +kernel
theorem dX0_init_23 : decode cX0_init 23 = .ok (.newarray .int, 2) := by decide +kernel
theorem dX0_init_25 : decode cX0_init 25 = .ok (.putfield 18, 3) := by decide +kernel
theorem dX0_init_28 : decode cX0_init 28 = .ok (.return_, 1) := by decide +kernel
theorem dX0_setAs_0 : decode cX0_setAs 0 = .ok (.aload_n 0, 1) := by decide +kernel
theorem dX0_setAs_1 : decode cX0_setAs 1 = .ok (.aload_n 1, 1) := by decide +kernel
theorem dX0_setAs_2 : decode cX0_setAs 2 = .ok (.getfield 21, 3) := by decide +kernel
theorem dX0_setAs_5 : decode cX0_setAs 5 = .ok (.putfield 21, 3) := by decide +kernel
theorem dX0_setAs_8 : decode cX0_setAs 8 = .ok (.aload_n 1, 1) := by decide +kernel
theorem dX0_setAs_9 : decode cX0_setAs 9 = .ok (.getfield 9, 3) := by decide +kernel
theorem dX0_setAs_12 : decode cX0_setAs 12 = .ok (.iconst 0, 1) := by decide +kernel
theorem dX0_setAs_13 : decode cX0_setAs 13 = .ok (.aload_n 0, 1) := by decide +kernel
theorem dX0_setAs_14 : decode cX0_setAs 14 = .ok (.getfield 9, 3) := by decide +kernel
theorem dX0_setAs_17 : decode cX0_setAs 17 = .ok (.iconst 0, 1) := by decide +kernel
theorem dX0_setAs_18 : decode cX0_setAs 18 = .ok (.bipush 12, 2) := by decide +kernel
theorem dX0_setAs_20 : decode cX0_setAs 20 = .ok (.invokestatic 25, 3) := by decide +kernel
theorem dX0_setAs_23 : decode cX0_setAs 23 = .ok (.aload_n 1, 1) := by decide +kernel
theorem dX0_setAs_24 : decode cX0_setAs 24 = .ok (.getfield 15, 3) := by decide +kernel
theorem dX0_setAs_27 : decode cX0_setAs 27 = .ok (.iconst 0, 1) := by decide +kernel
theorem dX0_setAs_28 : decode cX0_setAs 28 = .ok (.aload_n 0, 1) := by decide +kernel
theorem dX0_setAs_29 : decode cX0_setAs 29 = .ok (.getfield 15, 3) := by decide +kernel
theorem dX0_setAs_32 : decode cX0_setAs 32 = .ok (.iconst 0, 1) := by decide +kernel
theorem dX0_setAs_33 : decode cX0_setAs 33 = .ok (.bipush 12, 2) := by decide +kernel
theorem dX0_setAs_35 : decode cX0_setAs 35 = .ok (.invokestatic 25, 3) := by decide +kernel
theorem dX0_setAs_38 : decode cX0_setAs 38 = .ok (.aload_n 1, 1) := by decide +kernel
theorem dX0_setAs_39 : decode cX0_setAs 39 = .ok (.getfield 18, 3) := by decide +kernel
theorem dX0_setAs_42 : decode cX0_setAs 42 = .ok (.iconst 0, 1) := by decide +kernel
theorem dX0_setAs_43 : decode cX0_setAs 43 = .ok (.aload_n 0, 1) := by decide +kernel
theorem dX0_setAs_44 : decode cX0_setAs 44 = .ok (.getfield 18, 3) := by decide +kernel
theorem dX0_setAs_47 : decode cX0_setAs 47 = .ok (.iconst 0, 1) := by decide +kernel
theorem dX0_setAs_48 : decode cX0_setAs 48 = .ok (.bipush 12, 2) := by decide +kernel
theorem dX0_setAs_50 : decode cX0_setAs 50 = .ok (.invokestatic 25, 3) := by decide +kernel
theorem dX0_setAs_53 : decode cX0_setAs 53 = .ok (.return_, 1) := by decide +kernel
theorem dX0_hasFact_0 : decode cX0_hasFact 0 = .ok (.iload_n 1, 1) := by decide +kernel
theorem dX0_hasFact_1 : decode cX0_hasFact 1 = .ok (.ifCond .lt 15, 3) := by decide +kernel
theorem dX0_hasFact_4 : decode cX0_hasFact 4 = .ok (.iload_n 1, 1) := by decide +kernel
theorem dX0_hasFact_5 : decode cX0_hasFact 5 = .ok (.aload_n 0, 1) := by decide +kernel
theorem dX0_hasFact_6 : decode cX0_hasFact 6 = .ok (.getfield 21, 3) := by decide +kernel
theorem dX0_hasFact_9 : decode cX0_hasFact 9 = .ok (.if_icmp .ge 7, 3) := by decide +kernel
theorem dX0_hasFact_12 : decode cX0_hasFact 12 = .ok (.iconst 1, 1) := by decide +kernel
theorem dX0_hasFact_13 : decode cX0_hasFact 13 = .ok (.goto 4, 3) := by decide +kernel
theorem dX0_hasFact_16 : decode cX0_hasFact 16 = .ok (.iconst 0, 1) := by decide +kernel
theorem dX0_hasFact_17 : decode cX0_hasFact 17 = .ok (.ireturn, 1) := by decide +kernel
theorem dX0_hasBits_0 : decode cX0_hasBits 0 = .ok (.iload_n 1, 1) := by decide +kernel
theorem dX0_hasBits_1 : decode cX0_hasBits 1 = .ok (.ifCond .lt 17, 3) := by decide +kernel
theorem dX0_hasBits_4 : decode cX0_hasBits 4 = .ok (.iload_n 1, 1) := by decide +kernel
theorem dX0_hasBits_5 : decode cX0_hasBits 5 = .ok (.iconst 1, 1) := by decide +kernel
theorem dX0_hasBits_6 : decode cX0_hasBits 6 = .ok (.aload_n 0, 1) := by decide +kernel
theorem dX0_hasBits_7 : decode cX0_hasBits 7 = .ok (.getfield 21, 3) := by decide +kernel
theorem dX0_hasBits_10 : decode cX0_hasBits 10 = .ok (.ishl, 1) := by decide +kernel
theorem dX0_hasBits_11 : decode cX0_hasBits 11 = .ok (.if_icmp .ge 7, 3) := by decide +kernel
theorem dX0_hasBits_14 : decode cX0_hasBits 14 = .ok (.iconst 1, 1) := by decide +kernel
theorem dX0_hasBits_15 : decode cX0_hasBits 15 = .ok (.goto 4, 3) := by decide +kernel
theorem dX0_hasBits_18 : decode cX0_hasBits 18 = .ok (.iconst 0, 1) := by decide +kernel
theorem dX0_hasBits_19 : decode cX0_hasBits 19 = .ok (.ireturn, 1) := by decide +kernel
set_option maxRecDepth 20000 in
theorem ggX0_allOf_X7_hasBit : GoodIn wsX0_allOf wsX7_hasBit := goodIn_r _ [5] (by decide +kernel) (by decide +kernel)
set_option maxRecDepth 20000 in
theorem gX0_allOf_X7_hasBit_n31 : GoodIn wsX0_allOf (wsX7_hasBit) := ggX0_allOf_X7_hasBit
theorem dX0_allOf_0 : decode cX0_allOf 0 = .ok (.iconst 0, 1) := by decide +kernel
theorem dX0_allOf_1 : decode cX0_allOf 1 = .ok (.istore_n 2, 1) := by decide +kernel
theorem dX0_allOf_2 : decode cX0_allOf 2 = .ok (.iconst 0, 1) := by decide +kernel
theorem dX0_allOf_3 : decode cX0_allOf 3 = .ok (.istore_n 3, 1) := by decide +kernel
theorem dX0_allOf_4 : decode cX0_allOf 4 = .ok (.iload_n 3, 1) := by decide +kernel
theorem dX0_allOf_5 : decode cX0_allOf 5 = .ok (.aload_n 0, 1) := by decide +kernel
theorem dX0_allOf_6 : decode cX0_allOf 6 = .ok (.getfield 21, 3) := by decide +kernel
theorem dX0_allOf_9 : decode cX0_allOf 9 = .ok (.if_icmp .ge 26, 3) := by decide +kernel
theorem dX0_allOf_12 : decode cX0_allOf 12 = .ok (.iload_n 1, 1) := by decide +kernel
theorem dX0_allOf_13 : decode cX0_allOf 13 = .ok (.iload_n 3, 1) := by decide +kernel
theorem dX0_allOf_14 : decode cX0_allOf 14 = .ok (.invokestatic 31, 3) := by decide +kernel
theorem dX0_allOf_17 : decode cX0_allOf 17 = .ok (.ifCond .eq 12, 3) := by decide +kernel
theorem dX0_allOf_20 : decode cX0_allOf 20 = .ok (.iload_n 2, 1) := by decide +kernel
theorem dX0_allOf_21 : decode cX0_allOf 21 = .ok (.aload_n 0, 1) := by decide +kernel
theorem dX0_allOf_22 : decode cX0_allOf 22 = .ok (.getfield 15, 3) := by decide +kernel
theorem dX0_allOf_25 : decode cX0_allOf 25 = .ok (.iload_n 3, 1) := by decide +kernel
theorem dX0_allOf_26 : decode cX0_allOf 26 = .ok (.iaload, 1) := by decide +kernel
theorem dX0_allOf_27 : decode cX0_allOf 27 = .ok (.ior, 1) := by decide +kernel
theorem dX0_allOf_28 : decode cX0_allOf 28 = .ok (.istore_n 2, 1) := by decide +kernel
theorem dX0_allOf_29 : decode cX0_allOf 29 = .ok (.iinc 3 1, 3) := by decide +kernel
theorem dX0_allOf_32 : decode cX0_allOf 32 = .ok (.goto (-28), 3) := by decide +kernel
theorem dX0_allOf_35 : decode cX0_allOf 35 = .ok (.iload_n 2, 1) := by decide +kernel
theorem dX0_allOf_36 : decode cX0_allOf 36 = .ok (.ireturn, 1) := by decide +kernel
set_option maxRecDepth 20000 in
theorem ggX0_add_X0_allOf : GoodIn wsX0_add wsX0_allOf := goodIn_r _ [9, 1, 3, 10, 11, 12, 13, 14, 15, 16] (by decide +kernel) (by decide +kernel)
set_option maxRecDepth 20000 in
theorem gX0_add_X0_allOf : GoodIn wsX0_add (wsV RX0 35 RX0 yX0_allOf wsX0_allOf) := goodIn_app (goodIn_of _ (by decide +kernel)) ggX0_add_X0_allOf
set_option maxRecDepth 20000 in
theorem ggX0_add_X7_hasBit : GoodIn wsX0_add wsX7_hasBit := goodIn_r _ [12] (by decide +kernel) (by decide +kernel)
set_option maxRecDepth 20000 in
theorem gX0_add_X7_hasBit_n31 : GoodIn wsX0_add (wsX7_hasBit) := ggX0_add_X7_hasBit
theorem dX0_add_0 : decode cX0_add 0 = .ok (.aload_n 0, 1) := by decide +kernel
theorem dX0_add_1 : decode cX0_add 1 = .ok (.getfield 21, 3) := by decide +kernel
theorem dX0_add_4 : decode cX0_add 4 = .ok (.bipush 12, 2) := by decide +kernel
theorem dX0_add_6 : decode cX0_add 6 = .ok (.if_icmp .lt 4, 3) := by decide +kernel
theorem dX0_add_9 : decode cX0_add 9 = .ok (.return_, 1) := by decide +kernel
theorem dX0_add_10 : decode cX0_add 10 = .ok (.iconst 1, 1) := by decide +kernel
theorem dX0_add_11 : decode cX0_add 11 = .ok (.aload_n 0, 1) := by decide +kernel
theorem dX0_add_12 : decode cX0_add 12 = .ok (.getfield 21, 3) := by decide +kernel
theorem dX0_add_15 : decode cX0_add 15 = .ok (.ishl, 1) := by decide +kernel
theorem dX0_add_16 : decode cX0_add 16 = .ok (.istore_n 2, 1) := by decide +kernel
theorem dX0_add_17 : decode cX0_add 17 = .ok (.aload_n 0, 1) := by decide +kernel
theorem dX0_add_18 : decode cX0_add 18 = .ok (.getfield 9, 3) := by decide +kernel
theorem dX0_add_21 : decode cX0_add 21 = .ok (.aload_n 0, 1) := by decide +kernel
theorem dX0_add_22 : decode cX0_add 22 = .ok (.getfield 21, 3) := by decide +kernel
theorem dX0_add_25 : decode cX0_add 25 = .ok (.iload_n 1, 1) := by decide +kernel
theorem dX0_add_26 : decode cX0_add 26 = .ok (.iastore, 1) := by decide +kernel
theorem dX0_add_27 : decode cX0_add 27 = .ok (.aload_n 0, 1) := by decide +kernel
theorem dX0_add_28 : decode cX0_add 28 = .ok (.getfield 15, 3) := by decide +kernel
theorem dX0_add_31 : decode cX0_add 31 = .ok (.aload_n 0, 1) := by decide +kernel
theorem dX0_add_32 : decode cX0_add 32 = .ok (.getfield 21, 3) := by decide +kernel
theorem dX0_add_35 : decode cX0_add 35 = .ok (.aload_n 0, 1) := by decide +kernel
theorem dX0_add_36 : decode cX0_add 36 = .ok (.iload_n 1, 1) := by decide +kernel
theorem dX0_add_37 : decode cX0_add 37 = .ok (.invokevirtual 35, 3) := by decide +kernel
theorem dX0_add_40 : decode cX0_add 40 = .ok (.iload_n 2, 1) := by decide +kernel
theorem dX0_add_41 : decode cX0_add 41 = .ok (.ior, 1) := by decide +kernel
theorem dX0_add_42 : decode cX0_add 42 = .ok (.iastore, 1) := by decide +kernel
theorem dX0_add_43 : decode cX0_add 43 = .ok (.aload_n 0, 1) := by decide +kernel
theorem dX0_add_44 : decode cX0_add 44 = .ok (.getfield 18, 3) := by decide +kernel
theorem dX0_add_47 : decode cX0_add 47 = .ok (.aload_n 0, 1) := by decide +kernel
theorem dX0_add_48 : decode cX0_add 48 = .ok (.getfield 21, 3) := by decide +kernel
theorem dX0_add_51 : decode cX0_add 51 = .ok (.iload_n 2, 1) := by decide +kernel
theorem dX0_add_52 : decode cX0_add 52 = .ok (.iastore, 1) := by decide +kernel
theorem dX0_add_53 : decode cX0_add 53 = .ok (.iconst 0, 1) := by decide +kernel
theorem dX0_add_54 : decode cX0_add 54 = .ok (.istore_n 3, 1) := by decide +kernel
theorem dX0_add_55 : decode cX0_add 55 = .ok (.iload_n 3, 1) := by decide +kernel
theorem dX0_add_56 : decode cX0_add 56 = .ok (.aload_n 0, 1) := by decide +kernel
theorem dX0_add_57 : decode cX0_add 57 = .ok (.getfield 21, 3) := by decide +kernel
theorem dX0_add_60 : decode cX0_add 60 = .ok (.if_icmp .ge 35, 3) := by decide +kernel
theorem dX0_add_63 : decode cX0_add 63 = .ok (.aload_n 0, 1) := by decide +kernel
theorem dX0_add_64 : decode cX0_add 64 = .ok (.getfield 15, 3) := by decide +kernel
theorem dX0_add_67 : decode cX0_add 67 = .ok (.aload_n 0, 1) := by decide +kernel
theorem dX0_add_68 : decode cX0_add 68 = .ok (.getfield 21, 3) := by decide +kernel
theorem dX0_add_71 : decode cX0_add 71 = .ok (.iaload, 1) := by decide +kernel
theorem dX0_add_72 : decode cX0_add 72 = .ok (.iload_n 3, 1) := by decide +kernel
theorem dX0_add_73 : decode cX0_add 73 = .ok (.invokestatic 31, 3) := by decide +kernel
theorem dX0_add_76 : decode cX0_add 76 = .ok (.ifCond .eq 13, 3) := by decide +kernel
theorem dX0_add_79 : decode cX0_add 79 = .ok (.aload_n 0, 1) := by decide +kernel
theorem dX0_add_80 : decode cX0_add 80 = .ok (.getfield 18, 3) := by decide +kernel
theorem dX0_add_83 : decode cX0_add 83 = .ok (.iload_n 3, 1) := by decide +kernel
theorem dX0_add_84 : decode cX0_add 84 = .ok (.dup2, 1) := by decide +kernel
theorem dX0_add_85 : decode cX0_add 85 = .ok (.iaload, 1) := by decide +kernel
theorem dX0_add_86 : decode cX0_add 86 = .ok (.iload_n 2, 1) := by decide +kernel
theorem dX0_add_87 : decode cX0_add 87 = .ok (.ior, 1) := by decide +kernel
theorem dX0_add_88 : decode cX0_add 88 = .ok (.iastore, 1) := by decide +kernel
theorem dX0_add_89 : decode cX0_add 89 = .ok (.iinc 3 1, 3) := by decide +kernel
theorem dX0_add_92 : decode cX0_add 92 = .ok (.goto (-37), 3) := by decide +kernel
theorem dX0_add_95 : decode cX0_add 95 = .ok (.aload_n 0, 1) := by decide +kernel
theorem dX0_add_96 : decode cX0_add 96 = .ok (.dup, 1) := by decide +kernel
theorem dX0_add_97 : decode cX0_add 97 = .ok (.getfield 21, 3) := by decide +kernel
theorem dX0_add_100 : decode cX0_add 100 = .ok (.iconst 1, 1) := by decide +kernel
theorem dX0_add_101 : decode cX0_add 101 = .ok (.iadd, 1) := by decide +kernel
theorem dX0_add_102 : decode cX0_add 102 = .ok (.putfield 21, 3) := by decide +kernel
theorem dX0_add_105 : decode cX0_add 105 = .ok (.return_, 1) := by decide +kernel
theorem dX1_init_0 : decode cX1_init 0 = .ok (.aload_n 0, 1) := by decide +kernel
theorem dX1_init_1 : decode cX1_init 1 = .ok (.invokespecial 1, 3) := by decide +kernel
theorem dX1_init_4 : decode cX1_init 4 = .ok (.aload_n 0, 1) := by decide +kernel
theorem dX1_init_5 : decode cX1_init 5 = .ok (.lconst 1, 1) := by decide +kernel
theorem dX1_init_6 : decode cX1_init 6 = .ok (.putfield 7, 3) := by decide +kernel
theorem dX1_init_9 : decode cX1_init 9 = .ok (.return_, 1) := by decide +kernel
set_option maxRecDepth 20000 in
theorem ggX1_setLowest_X1_commonDivisor : GoodIn wsX1_setLowest wsX1_commonDivisor := goodIn_r _ [10] (by decide +kernel) (by decide +kernel)
set_option maxRecDepth 20000 in
theorem gX1_setLowest_X1_commonDivisor : GoodIn wsX1_setLowest (va_wsS RX1 19 yX1_commonDivisor wsX1_commonDivisor) := goodIn_app (goodIn_of _ (by decide +kernel)) ggX1_setLowest_X1_commonDivisor
theorem dX1_setLowest_0 : decode cX1_setLowest 0 = .ok (.lload_n 1, 1) := by decide +kernel
theorem dX1_setLowest_1 : decode cX1_setLowest 1 = .ok (.invokestatic 13, 3) := by decide +kernel
theorem dX1_setLowest_4 : decode cX1_setLowest 4 = .ok (.lload_n 3, 1) := by decide +kernel
theorem dX1_setLowest_5 : decode cX1_setLowest 5 = .ok (.invokestatic 19, 3) := by decide +kernel
theorem dX1_setLowest_8 : decode cX1_setLowest 8 = .ok (.lstore 5, 2) := by decide +kernel
theorem dX1_setLowest_10 : decode cX1_setLowest 10 = .ok (.lload 5, 2) := by decide +kernel
theorem dX1_setLowest_12 : decode cX1_setLowest 12 = .ok (.lconst 0, 1) := by decide +kernel
theorem dX1_setLowest_13 : decode cX1_setLowest 13 = .ok (.lcmp, 1) := by decide +kernel
theorem dX1_setLowest_14 : decode cX1_setLowest 14 = .ok (.ifCond .le 19, 3) := by decide +kernel
theorem dX1_setLowest_17 : decode cX1_setLowest 17 = .ok (.aload_n 0, 1) := by decide +kernel
theorem dX1_setLowest_18 : decode cX1_setLowest 18 = .ok (.lload_n 1, 1) := by decide +kernel
theorem dX1_setLowest_19 : decode cX1_setLowest 19 = .ok (.lload 5, 2) := by decide +kernel
theorem dX1_setLowest_21 : decode cX1_setLowest 21 = .ok (.ldiv, 1) := by decide +kernel
theorem dX1_setLowest_22 : decode cX1_setLowest 22 = .ok (.putfield 23, 3) := by decide +kernel
theorem dX1_setLowest_25 : decode cX1_setLowest 25 = .ok (.aload_n 0, 1) := by decide +kernel
theorem dX1_setLowest_26 : decode cX1_setLowest 26 = .ok (.lload_n 3, 1) := by decide +kernel
theorem dX1_setLowest_27 : decode cX1_setLowest 27 = .ok (.lload 5, 2) := by decide +kernel
theorem dX1_setLowest_29 : decode cX1_setLowest 29 = .ok (.ldiv, 1) := by decide +kernel
theorem dX1_setLowest_30 : decode cX1_setLowest 30 = .ok (.putfield 7, 3) := by decide +kernel
theorem dX1_setLowest_33 : decode cX1_setLowest 33 = .ok (.return_, 1) := by decide +kernel
theorem dX1_commonDivisor_0 : decode cX1_commonDivisor 0 = .ok (.lload_n 0, 1) := by decide +kernel
theorem dX1_commonDivisor_1 : decode cX1_commonDivisor 1 = .ok (.lstore 4, 2) := by decide +kernel
theorem dX1_commonDivisor_3 : decode cX1_commonDivisor 3 = .ok (.lload_n 2, 1) := by decide +kernel
theorem dX1_commonDivisor_4 : decode cX1_commonDivisor 4 = .ok (.lstore 6, 2) := by decide +kernel
theorem dX1_commonDivisor_6 : decode cX1_commonDivisor 6 = .ok (.iconst 0, 1) := by decide +kernel
theorem dX1_commonDivisor_7 : decode cX1_commonDivisor 7 = .ok (.istore 8, 2) := by decide +kernel
theorem dX1_commonDivisor_9 : decode cX1_commonDivisor 9 = .ok (.iload 8, 2) := by decide +kernel
theorem dX1_commonDivisor_11 : decode cX1_commonDivisor 11 = .ok (.bipush 100, 2) := by decide +kernel
theorem dX1_commonDivisor_13 : decode cX1_commonDivisor 13 = .ok (.if_icmp .ge 31, 3) := by decide +kernel
theorem dX1_commonDivisor_16 : decode cX1_commonDivisor 16 = .ok (.lload 6, 2) := by decide +kernel
theorem dX1_commonDivisor_18 : decode cX1_commonDivisor 18 = .ok (.lconst 0, 1) := by decide +kernel
theorem dX1_commonDivisor_19 : decode cX1_commonDivisor 19 = .ok (.lcmp, 1) := by decide +kernel
theorem dX1_commonDivisor_20 : decode cX1_commonDivisor 20 = .ok (.ifCond .eq 24, 3) := by decide +kernel
theorem dX1_commonDivisor_23 : decode cX1_commonDivisor 23 = .ok (.lload 4, 2) := by decide +kernel
theorem dX1_commonDivisor_25 : decode cX1_commonDivisor 25 = .ok (.lload 6, 2) := by decide +kernel
theorem dX1_commonDivisor_27 : decode cX1_commonDivisor 27 = .ok (.lrem, 1) := by decide +kernel
theorem dX1_commonDivisor_28 : decode cX1_commonDivisor 28 = .ok (.lstore 9, 2) := by decide +kernel
theorem dX1_commonDivisor_30 : decode cX1_commonDivisor 30 = .ok (.lload 6, 2) := by decide +kernel
theorem dX1_commonDivisor_32 : decode cX1_commonDivisor 32 = .ok (.lstore 4, 2) := by decide +kernel
theorem dX1_commonDivisor_34 : decode cX1_commonDivisor 34 = .ok (.lload 9, 2) := by decide +kernel
theorem dX1_commonDivisor_36 : decode cX1_commonDivisor 36 = .ok (.lstore 6, 2) := by decide +kernel
theorem dX1_commonDivisor_38 : decode cX1_commonDivisor 38 = .ok (.iinc 8 1, 3) := by decide +kernel
theorem dX1_commonDivisor_41 : decode cX1_commonDivisor 41 = .ok (.goto (-32), 3) := by decide +kernel
theorem dX1_commonDivisor_44 : decode cX1_commonDivisor 44 = .ok (.lload 4, 2) := by decide +kernel
theorem dX1_commonDivisor_46 : decode cX1_commonDivisor 46 = .ok (.lreturn, 1) := by decide +kernel
theorem dX2_init_0 : decode cX2_init 0 = .ok (.aload_n 0, 1) := by decide +kernel
theorem dX2_init_1 : decode cX2_init 1 = .ok (.invokespecial 3, 3) := by decide +kernel
theorem dX2_init_4 : decode cX2_init 4 = .ok (.aload_n 0, 1) := by decide +kernel
theorem dX2_init_5 : decode cX2_init 5 = .ok (.iconst 4, 1) := by decide +kernel
theorem dX2_init_6 : decode cX2_init 6 = .ok (.bipush 32, 2) := by decide +kernel
theorem dX2_init_8 : decode cX2_init 8 = .ok (.multianewarray 9 2, 4) := by decide +kernel
theorem dX2_init_12 : decode cX2_init 12 = .ok (.putfield 11, 3) := by decide +kernel
theorem dX2_init_15 : decode cX2_init 15 = .ok (.aload_n 0, 1) := by decide +kernel
theorem dX2_init_16 : decode cX2_init 16 = .ok (.iconst 4, 1) := by decide +kernel
theorem dX2_init_17 : decode cX2_init 17 = .ok (.newarray .int, 2) := by decide +kernel
theorem dX2_init_19 : decode cX2_init 19 = .ok (.putfield 16, 3) := by decide +kernel
theorem dX2_init_22 : decode cX2_init 22 = .ok (.aload_n 0, 1) := by decide +kernel
theorem dX2_init_23 : decode cX2_init 23 = .ok (.iconst 5, 1) := by decide +kernel
theorem dX2_init_24 : decode cX2_init 24 = .ok (.newarray .int, 2) := by decide +kernel
theorem dX2_init_26 : decode cX2_init 26 = .ok (.putfield 20, 3) := by decide +kernel
theorem dX2_init_29 : decode cX2_init 29 = .ok (.aload_n 0, 1) := by decide +kernel
theorem dX2_init_30 : decode cX2_init 30 = .ok (.iconst 5, 1) := by decide +kernel
theorem dX2_init_31 : decode cX2_init 31 = .ok (.newarray .int, 2) := by decide +kernel
theorem dX2_init_33 : decode cX2_init 33 = .ok (.putfield 23, 3) := by decide +kernel
theorem dX2_init_36 : decode cX2_init 36 = .ok (.return_, 1) := by decide +kernel
set_option maxRecDepth 20000 in
theorem ggX2_begin_X3_leechesOn : GoodIn wsX2_begin wsX3_leechesOn := goodIn_r _ [15, 16, 17, 18, 19, 20, 21, 22, 23, 24, 25] (by decide +kernel) (by decide +kernel)
set_option maxRecDepth 20000 in
theorem gX2_begin_X3_leechesOn : GoodIn wsX2_begin (wsV RX2 37 RX3 yX3_leechesOn wsX3_leechesOn) := goodIn_app (goodIn_of _ (by decide +kernel)) ggX2_begin_X3_leechesOn
theorem dX2_begin_0 : decode cX2_begin 0 = .ok (.aload_n 0, 1) := by decide +kernel
theorem dX2_begin_1 : decode cX2_begin 1 = .ok (.aload_n 1, 1) := by decide +kernel
theorem dX2_begin_2 : decode cX2_begin 2 = .ok (.getfield 26, 3) := by decide +kernel
theorem dX2_begin_5 : decode cX2_begin 5 = .ok (.putfield 32, 3) := by decide +kernel
theorem dX2_begin_8 : decode cX2_begin 8 = .ok (.aload_n 0, 1) := by decide +kernel
theorem dX2_begin_9 : decode cX2_begin 9 = .ok (.aload_n 1, 1) := by decide +kernel
theorem dX2_begin_10 : decode cX2_begin 10 = .ok (.getfield 33, 3) := by decide +kernel
theorem dX2_begin_13 : decode cX2_begin 13 = .ok (.putfield 36, 3) := by decide +kernel
theorem dX2_begin_16 : decode cX2_begin 16 = .ok (.aload_n 0, 1) := by decide +kernel
theorem dX2_begin_17 : decode cX2_begin 17 = .ok (.aload_n 1, 1) := by decide +kernel
theorem dX2_begin_18 : decode cX2_begin 18 = .ok (.iconst (-1), 1) := by decide +kernel
theorem dX2_begin_19 : decode cX2_begin 19 = .ok (.invokevirtual 37, 3) := by decide +kernel
theorem dX2_begin_22 : decode cX2_begin 22 = .ok (.putfield 41, 3) := by decide +kernel
theorem dX2_begin_25 : decode cX2_begin 25 = .ok (.aload_n 0, 1) := by decide +kernel
theorem dX2_begin_26 : decode cX2_begin 26 = .ok (.iload_n 2, 1) := by decide +kernel
theorem dX2_begin_27 : decode cX2_begin 27 = .ok (.putfield 44, 3) := by decide +kernel
theorem dX2_begin_30 : decode cX2_begin 30 = .ok (.aload_n 0, 1) := by decide +kernel
theorem dX2_begin_31 : decode cX2_begin 31 = .ok (.iconst (-1), 1) := by decide +kernel
theorem dX2_begin_32 : decode cX2_begin 32 = .ok (.putfield 47, 3) := by decide +kernel
theorem dX2_begin_35 : decode cX2_begin 35 = .ok (.iconst 0, 1) := by decide +kernel
theorem dX2_begin_36 : decode cX2_begin 36 = .ok (.istore_n 3, 1) := by decide +kernel
theorem dX2_begin_37 : decode cX2_begin 37 = .ok (.iload_n 3, 1) := by decide +kernel
theorem dX2_begin_38 : decode cX2_begin 38 = .ok (.iconst 4, 1) := by decide +kernel
theorem dX2_begin_39 : decode cX2_begin 39 = .ok (.if_icmp .ge 16, 3) := by decide +kernel
theorem dX2_begin_42 : decode cX2_begin 42 = .ok (.aload_n 0, 1) := by decide +kernel
theorem dX2_begin_43 : decode cX2_begin 43 = .ok (.getfield 16, 3) := by decide +kernel
theorem dX2_begin_46 : decode cX2_begin 46 = .ok (.iload_n 3, 1) := by decide +kernel
theorem dX2_begin_47 : decode cX2_begin 47 = .ok (.iconst 0, 1) := by decide +kernel
theorem dX2_begin_48 : decode cX2_begin 48 = .ok (.iastore, 1) := by decide +kernel
theorem dX2_begin_49 : decode cX2_begin 49 = .ok (.iinc 3 1, 3) := by decide +kernel
theorem dX2_begin_52 : decode cX2_begin 52 = .ok (.goto (-15), 3) := by decide +kernel
theorem dX2_begin_55 : decode cX2_begin 55 = .ok (.iconst 0, 1) := by decide +kernel
theorem dX2_begin_56 : decode cX2_begin 56 = .ok (.istore_n 3, 1) := by decide +kernel
theorem dX2_begin_57 : decode cX2_begin 57 = .ok (.iload_n 3, 1) := by decide +kernel
theorem dX2_begin_58 : decode cX2_begin 58 = .ok (.iconst 5, 1) := by decide +kernel
theorem dX2_begin_59 : decode cX2_begin 59 = .ok (.if_icmp .ge 23, 3) := by decide +kernel
theorem dX2_begin_62 : decode cX2_begin 62 = .ok (.aload_n 0, 1) := by decide +kernel
theorem dX2_begin_63 : decode cX2_begin 63 = .ok (.getfield 20, 3) := by decide +kernel
theorem dX2_begin_66 : decode cX2_begin 66 = .ok (.iload_n 3, 1) := by decide +kernel
theorem dX2_begin_67 : decode cX2_begin 67 = .ok (.iconst (-1), 1) := by decide +kernel
theorem dX2_begin_68 : decode cX2_begin 68 = .ok (.iastore, 1) := by decide +kernel
theorem dX2_begin_69 : decode cX2_begin 69 = .ok (.aload_n 0, 1) := by decide +kernel
theorem dX2_begin_70 : decode cX2_begin 70 = .ok (.getfield 23, 3) := by decide +kernel
theorem dX2_begin_73 : decode cX2_begin 73 = .ok (.iload_n 3, 1) := by decide +kernel
theorem dX2_begin_74 : decode cX2_begin 74 = .ok (.iconst (-1), 1) := by decide +kernel
theorem dX2_begin_75 : decode cX2_begin 75 = .ok (.iastore, 1) := by decide +kernel
theorem dX2_begin_76 : decode cX2_begin 76 = .ok (.iinc 3 1, 3) := by decide +kernel
theorem dX2_begin_79 : decode cX2_begin 79 = .ok (.goto (-22), 3) := by decide +kernel
theorem dX2_begin_82 : decode cX2_begin 82 = .ok (.return_, 1) := by decide +kernel
set_option maxRecDepth 20000 in
theorem ggX2_choose_X2_chooseFrom : GoodIn wsX2_choose wsX2_chooseFrom := goodIn_r _ [5, 6, 7, 8, 9, 10, 11, 12, 13, 4, 14, 15, 16, 17, 18, 19, 20, 21, 22, 23, 24, 25, 26, 27, 28, 29, 1, 2, 3, 30, 31, 32, 33, 34, 35, 36, 37, 38, 39, 40, 41] (by decide +kernel) (by decide +kernel)
set_option maxRecDepth 20000 in
theorem gX2_choose_X2_chooseFrom : GoodIn wsX2_choose (wsV RX2 50 RX2 yX2_chooseFrom wsX2_chooseFrom) := goodIn_app (goodIn_of _ (by decide +kernel)) ggX2_choose_X2_chooseFrom
theorem dX2_choose_0 : decode cX2_choose 0 = .ok (.aload_n 0, 1) := by decide +kernel
theorem dX2_choose_1 : decode cX2_choose 1 = .ok (.iconst 0, 1) := by decide +kernel
theorem dX2_choose_2 : decode cX2_choose 2 = .ok (.invokevirtual 50, 3) := by decide +kernel
theorem dX2_choose_5 : decode cX2_choose 5 = .ok (.return_, 1) := by decide +kernel
set_option maxRecDepth 20000 in
theorem ggX2_chooseFrom_X2_judge : GoodIn wsX2_chooseFrom wsX2_judge := goodIn_r _ [10, 4, 11, 5, 12, 13, 2, 14, 15, 16, 17, 18, 19, 20, 21, 22, 23, 24, 25, 32, 33, 34, 35, 36, 37, 38, 39, 40] (by decide +kernel) (by decide +kernel)
set_option maxRecDepth 20000 in
theorem gX2_chooseFrom_X2_judge : GoodIn wsX2_chooseFrom (wsV RX2 54 RX2 yX2_judge wsX2_judge) := goodIn_app (goodIn_of _ (by decide +kernel)) ggX2_chooseFrom_X2_judge
set_option maxRecDepth 20000 in
theorem ggX2_chooseFrom_X2_chooseFrom : GoodIn wsX2_chooseFrom wsX2_chooseFrom := goodIn_r _ [0, 1, 2, 3, 4, 5, 6, 7, 8, 9, 10, 11, 12, 13, 14, 15, 16, 17, 18, 19, 20, 21, 22, 23, 24, 25, 26, 27, 28, 29, 30, 31, 32, 33, 34, 35, 36, 37, 38, 39, 40] (by decide +kernel) (by decide +kernel)
set_option maxRecDepth 20000 in
theorem gX2_chooseFrom_X2_chooseFrom : GoodIn wsX2_chooseFrom (wsV RX2 50 RX2 yX2_chooseFrom wsX2_chooseFrom) := goodIn_app (goodIn_of _ (by decide +kernel)) ggX2_chooseFrom_X2_chooseFrom
set_option maxRecDepth 20000 in
theorem ggX2_chooseFrom_X7_hasBit : GoodIn wsX2_chooseFrom wsX7_hasBit := goodIn_r _ [31] (by decide +kernel) (by decide +kernel)
set_option maxRecDepth 20000 in
theorem gX2_chooseFrom_X7_hasBit_n57 : GoodIn wsX2_chooseFrom (wsX7_hasBit) := ggX2_chooseFrom_X7_hasBit
theorem dX2_chooseFrom_0 : decode cX2_chooseFrom 0 = .ok (.iload_n 1, 1) := by decide +kernel
theorem dX2_chooseFrom_1 : decode cX2_chooseFrom 1 = .ok (.aload_n 0, 1) := by decide +kernel
theorem dX2_chooseFrom_2 : decode cX2_chooseFrom 2 = .ok (.getfield 36, 3) := by decide +kernel
theorem dX2_chooseFrom_5 : decode cX2_chooseFrom 5 = .ok (.if_icmp .lt 8, 3) := by decide +kernel
theorem dX2_chooseFrom_8 : decode cX2_chooseFrom 8 = .ok (.aload_n 0, 1) := by decide +kernel
theorem dX2_chooseFrom_9 : decode cX2_chooseFrom 9 = .ok (.invokevirtual 54, 3) := by decide +kernel
theorem dX2_chooseFrom_12 : decode cX2_chooseFrom 12 = .ok (.return_, 1) := by decide +kernel
theorem dX2_chooseFrom_13 : decode cX2_chooseFrom 13 = .ok (.aload_n 0, 1) := by decide +kernel
theorem dX2_chooseFrom_14 : decode cX2_chooseFrom 14 = .ok (.getfield 20, 3) := by decide +kernel
theorem dX2_chooseFrom_17 : decode cX2_chooseFrom 17 = .ok (.iload_n 1, 1) := by decide +kernel
theorem dX2_chooseFrom_18 : decode cX2_chooseFrom 18 = .ok (.iconst (-1), 1) := by decide +kernel
theorem dX2_chooseFrom_19 : decode cX2_chooseFrom 19 = .ok (.iastore, 1) := by decide +kernel
theorem dX2_chooseFrom_20 : decode cX2_chooseFrom 20 = .ok (.aload_n 0, 1) := by decide +kernel
theorem dX2_chooseFrom_21 : decode cX2_chooseFrom 21 = .ok (.iload_n 1, 1) := by decide +kernel
theorem dX2_chooseFrom_22 : decode cX2_chooseFrom 22 = .ok (.iconst 1, 1) := by decide +kernel
theorem dX2_chooseFrom_23 : decode cX2_chooseFrom 23 = .ok (.iadd, 1) := by decide +kernel
theorem dX2_chooseFrom_24 : decode cX2_chooseFrom 24 = .ok (.invokevirtual 50, 3) := by decide +kernel
theorem dX2_chooseFrom_27 : decode cX2_chooseFrom 27 = .ok (.aload_n 0, 1) := by decide +kernel
theorem dX2_chooseFrom_28 : decode cX2_chooseFrom 28 = .ok (.getfield 41, 3) := by decide +kernel
theorem dX2_chooseFrom_31 : decode cX2_chooseFrom 31 = .ok (.iload_n 1, 1) := by decide +kernel
theorem dX2_chooseFrom_32 : decode cX2_chooseFrom 32 = .ok (.invokestatic 57, 3) := by decide +kernel
theorem dX2_chooseFrom_35 : decode cX2_chooseFrom 35 = .ok (.ifCond .ne 4, 3) := by decide +kernel
theorem dX2_chooseFrom_38 : decode cX2_chooseFrom 38 = .ok (.return_, 1) := by decide +kernel
theorem dX2_chooseFrom_39 : decode cX2_chooseFrom 39 = .ok (.iconst 0, 1) := by decide +kernel
theorem dX2_chooseFrom_40 : decode cX2_chooseFrom 40 = .ok (.istore_n 2, 1) := by decide +kernel
theorem dX2_chooseFrom_41 : decode cX2_chooseFrom 41 = .ok (.iload_n 2, 1) := by decide +kernel
theorem dX2_chooseFrom_42 : decode cX2_chooseFrom 42 = .ok (.aload_n 0, 1) := by decide +kernel
theorem dX2_chooseFrom_43 : decode cX2_chooseFrom 43 = .ok (.getfield 32, 3) := by decide +kernel
theorem dX2_chooseFrom_46 : decode cX2_chooseFrom 46 = .ok (.if_icmp .ge 49, 3) := by decide +kernel
theorem dX2_chooseFrom_49 : decode cX2_chooseFrom 49 = .ok (.aload_n 0, 1) := by decide +kernel
theorem dX2_chooseFrom_50 : decode cX2_chooseFrom 50 = .ok (.getfield 20, 3) := by decide +kernel
theorem dX2_chooseFrom_53 : decode cX2_chooseFrom 53 = .ok (.iload_n 1, 1) := by decide +kernel
theorem dX2_chooseFrom_54 : decode cX2_chooseFrom 54 = .ok (.iload_n 2, 1) := by decide +kernel
theorem dX2_chooseFrom_55 : decode cX2_chooseFrom 55 = .ok (.iastore, 1) := by decide +kernel
theorem dX2_chooseFrom_56 : decode cX2_chooseFrom 56 = .ok (.aload_n 0, 1) := by decide +kernel
theorem dX2_chooseFrom_57 : decode cX2_chooseFrom 57 = .ok (.getfield 16, 3) := by decide +kernel
theorem dX2_chooseFrom_60 : decode cX2_chooseFrom 60 = .ok (.iload_n 2, 1) := by decide +kernel
theorem dX2_chooseFrom_61 : decode cX2_chooseFrom 61 = .ok (.dup2, 1) := by decide +kernel
theorem dX2_chooseFrom_62 : decode cX2_chooseFrom 62 = .ok (.iaload, 1) := by decide +kernel
theorem dX2_chooseFrom_63 : decode cX2_chooseFrom 63 = .ok (.iconst 1, 1) := by decide +kernel
theorem dX2_chooseFrom_64 : decode cX2_chooseFrom 64 = .ok (.iload_n 1, 1) := by decide +kernel
theorem dX2_chooseFrom_65 : decode cX2_chooseFrom 65 = .ok (.ishl, 1) := by decide +kernel
theorem dX2_chooseFrom_66 : decode cX2_chooseFrom 66 = .ok (.ior, 1) := by decide +kernel
theorem dX2_chooseFrom_67 : decode cX2_chooseFrom 67 = .ok (.iastore, 1) := by decide +kernel
theorem dX2_chooseFrom_68 : decode cX2_chooseFrom 68 = .ok (.aload_n 0, 1) := by decide +kernel
theorem dX2_chooseFrom_69 : decode cX2_chooseFrom 69 = .ok (.iload_n 1, 1) := by decide +kernel
theorem dX2_chooseFrom_70 : decode cX2_chooseFrom 70 = .ok (.iconst 1, 1) := by decide +kernel
theorem dX2_chooseFrom_71 : decode cX2_chooseFrom 71 = .ok (.iadd, 1) := by decide +kernel
theorem dX2_chooseFrom_72 : decode cX2_chooseFrom 72 = .ok (.invokevirtual 50, 3) := by decide +kernel
theorem dX2_chooseFrom_75 : decode cX2_chooseFrom 75 = .ok (.aload_n 0, 1) := by decide +kernel
theorem dX2_chooseFrom_76 : decode cX2_chooseFrom 76 = .ok (.getfield 16, 3) := by decide +kernel
theorem dX2_chooseFrom_79 : decode cX2_chooseFrom 79 = .ok (.iload_n 2, 1) := by decide +kernel
theorem dX2_chooseFrom_80 : decode cX2_chooseFrom 80 = .ok (.dup2, 1) := by decide +kernel
theorem dX2_chooseFrom_81 : decode cX2_chooseFrom 81 = .ok (.iaload, 1) := by decide +kernel
theorem dX2_chooseFrom_82 : decode cX2_chooseFrom 82 = .ok (.iconst 1, 1) := by decide +kernel
theorem dX2_chooseFrom_83 : decode cX2_chooseFrom 83 = .ok (.iload_n 1, 1) := by decide +kernel
theorem dX2_chooseFrom_84 : decode cX2_chooseFrom 84 = .ok (.ishl, 1) := by decide +kernel
theorem dX2_chooseFrom_85 : decode cX2_chooseFrom 85 = .ok (.iconst (-1), 1) := by decide +kernel
theorem dX2_chooseFrom_86 : decode cX2_chooseFrom 86 = .ok (.ixor, 1) := by decide +kernel
theorem dX2_chooseFrom_87 : decode cX2_chooseFrom 87 = .ok (.iand, 1) := by decide +kernel
theorem dX2_chooseFrom_88 : decode cX2_chooseFrom 88 = .ok (.iastore, 1) := by decide +kernel
theorem dX2_chooseFrom_89 : decode cX2_chooseFrom 89 = .ok (.iinc 2 1, 3) := by decide +kernel
theorem dX2_chooseFrom_92 : decode cX2_chooseFrom 92 = .ok (.goto (-51), 3) := by decide +kernel
theorem dX2_chooseFrom_95 : decode cX2_chooseFrom 95 = .ok (.return_, 1) := by decide +kernel
set_option maxRecDepth 20000 in
theorem ggX2_judge_J6_bitCount_0f7a4 : GoodIn wsX2_judge wsJ6_bitCount_0f7a4 := goodIn_r _ [15, 16, 17, 18] (by decide +kernel) (by decide +kernel)
set_option maxRecDepth 20000 in
theorem gX2_judge_J6_bitCount_0f7a4 : GoodIn wsX2_judge (va_wsS RX2 61 yJ6_bitCount_0f7a4 wsJ6_bitCount_0f7a4) := goodIn_app (goodIn_of _ (by decide +kernel)) ggX2_judge_J6_bitCount_0f7a4
theorem dX2_judge_0 : decode cX2_judge 0 = .ok (.iconst 0, 1) := by decide +kernel
theorem dX2_judge_1 : decode cX2_judge 1 = .ok (.istore_n 1, 1) := by decide +kernel
theorem dX2_judge_2 : decode cX2_judge 2 = .ok (.iconst 0, 1) := by decide +kernel
theorem dX2_judge_3 : decode cX2_judge 3 = .ok (.istore_n 2, 1) := by decide +kernel
theorem dX2_judge_4 : decode cX2_judge 4 = .ok (.iload_n 2, 1) := by decide +kernel
theorem dX2_judge_5 : decode cX2_judge 5 = .ok (.aload_n 0, 1) := by decide +kernel
theorem dX2_judge_6 : decode cX2_judge 6 = .ok (.getfield 32, 3) := by decide +kernel
theorem dX2_judge_9 : decode cX2_judge 9 = .ok (.if_icmp .ge 39, 3) := by decide +kernel
theorem dX2_judge_12 : decode cX2_judge 12 = .ok (.aload_n 0, 1) := by decide +kernel
theorem dX2_judge_13 : decode cX2_judge 13 = .ok (.getfield 11, 3) := by decide +kernel
theorem dX2_judge_16 : decode cX2_judge 16 = .ok (.iload_n 2, 1) := by decide +kernel
theorem dX2_judge_17 : decode cX2_judge 17 = .ok (.aaload, 1) := by decide +kernel
theorem dX2_judge_18 : decode cX2_judge 18 = .ok (.aload_n 0, 1) := by decide +kernel
theorem dX2_judge_19 : decode cX2_judge 19 = .ok (.getfield 16, 3) := by decide +kernel
theorem dX2_judge_22 : decode cX2_judge 22 = .ok (.iload_n 2, 1) := by decide +kernel
theorem dX2_judge_23 : decode cX2_judge 23 = .ok (.iaload, 1) := by decide +kernel
theorem dX2_judge_24 : decode cX2_judge 24 = .ok (.iaload, 1) := by decide +kernel
theorem dX2_judge_25 : decode cX2_judge 25 = .ok (.istore_n 3, 1) := by decide +kernel
theorem dX2_judge_26 : decode cX2_judge 26 = .ok (.iload_n 3, 1) := by decide +kernel
theorem dX2_judge_27 : decode cX2_judge 27 = .ok (.invokestatic 61, 3) := by decide +kernel
theorem dX2_judge_30 : decode cX2_judge 30 = .ok (.aload_n 0, 1) := by decide +kernel
theorem dX2_judge_31 : decode cX2_judge 31 = .ok (.getfield 44, 3) := by decide +kernel
theorem dX2_judge_34 : decode cX2_judge 34 = .ok (.if_icmp .le 4, 3) := by decide +kernel
theorem dX2_judge_37 : decode cX2_judge 37 = .ok (.return_, 1) := by decide +kernel
theorem dX2_judge_38 : decode cX2_judge 38 = .ok (.iload_n 1, 1) := by decide +kernel
theorem dX2_judge_39 : decode cX2_judge 39 = .ok (.iload_n 3, 1) := by decide +kernel
theorem dX2_judge_40 : decode cX2_judge 40 = .ok (.ior, 1) := by decide +kernel
theorem dX2_judge_41 : decode cX2_judge 41 = .ok (.istore_n 1, 1) := by decide +kernel
theorem dX2_judge_42 : decode cX2_judge 42 = .ok (.iinc 2 1, 3) := by decide +kernel
theorem dX2_judge_45 : decode cX2_judge 45 = .ok (.goto (-41), 3) := by decide +kernel
theorem dX2_judge_48 : decode cX2_judge 48 = .ok (.iload_n 1, 1) := by decide +kernel
theorem dX2_judge_49 : decode cX2_judge 49 = .ok (.invokestatic 61, 3) := by decide +kernel
theorem dX2_judge_52 : decode cX2_judge 52 = .ok (.aload_n 0, 1) := by decide +kernel
theorem dX2_judge_53 : decode cX2_judge 53 = .ok (.getfield 47, 3) := by decide +kernel
theorem dX2_judge_56 : decode cX2_judge 56 = .ok (.if_icmp .le 25, 3) := by decide +kernel
theorem dX2_judge_59 : decode cX2_judge 59 = .ok (.aload_n 0, 1) := by decide +kernel
theorem dX2_judge_60 : decode cX2_judge 60 = .ok (.iload_n 1, 1) := by decide +kernel
theorem dX2_judge_61 : decode cX2_judge 61 = .ok (.invokestatic 61, 3) := by decide +kernel
theorem dX2_judge_64 : decode cX2_judge 64 = .ok (.putfield 47, 3) := by decide +kernel
theorem dX2_judge_67 : decode cX2_judge 67 = .ok (.aload_n 0, 1) := by decide +kernel
theorem dX2_judge_68 : decode cX2_judge 68 = .ok (.getfield 20, 3) := by decide +kernel
theorem dX2_judge_71 : decode cX2_judge 71 = .ok (.iconst 0, 1) := by decide +kernel
theorem dX2_judge_72 : decode cX2_judge 72 = .ok (.aload_n 0, 1) := by decide +kernel
theorem dX2_judge_73 : decode cX2_judge 73 = .ok (.getfield 23, 3) := by decide +kernel
theorem dX2_judge_76 : decode cX2_judge 76 = .ok (.iconst 0, 1) := by decide +kernel
theorem dX2_judge_77 : decode cX2_judge 77 = .ok (.iconst 5, 1) := by decide +kernel
theorem dX2_judge_78 : decode cX2_judge 78 = .ok (.invokestatic 66, 3) := by decide +kernel
theorem dX2_judge_81 : decode cX2_judge 81 = .ok (.return_, 1) := by decide +kernel
theorem dX3_init_0 : decode cX3_init 0 = .ok (.aload_n 0, 1) := by decide +kernel
theorem dX3_init_1 : decode cX3_init 1 = .ok (.invokespecial 3, 3) := by decide +kernel
theorem dX3_init_4 : decode cX3_init 4 = .ok (.aload_n 0, 1) := by decide +kernel
theorem dX3_init_5 : decode cX3_init 5 = .ok (.iconst 4, 1) := by decide +kernel
theorem dX3_init_6 : decode cX3_init 6 = .ok (.newarray .int, 2) := by decide +kernel
theorem dX3_init_8 : decode cX3_init 8 = .ok (.putfield 9, 3) := by decide +kernel
theorem dX3_init_11 : decode cX3_init 11 = .ok (.aload_n 0, 1) := by decide +kernel
theorem dX3_init_12 : decode cX3_init 12 = .ok (.iconst 5, 1) := by decide +kernel
theorem dX3_init_13 : decode cX3_init 13 = .ok (.newarray .int, 2) := by decide +kernel
theorem dX3_init_15 : decode cX3_init 15 = .ok (.putfield 15, 3) := by decide +kernel
theorem dX3_init_18 : decode cX3_init 18 = .ok (.aload_n 0, 1) := by decide +kernel
theorem dX3_init_19 : decode cX3_init 19 = .ok (.iconst 5, 1) := by decide +kernel
theorem dX3_init_20 : decode cX3_init 20 = .ok (.newarray .int, 2) := by decide +kernel
theorem dX3_init_22 : decode cX3_init 22 = .ok (.putfield 18, 3) := by decide +kernel
theorem dX3_init_25 : decode cX3_init 25 = .ok (.aload_n 0, 1) := by decide +kernel
theorem dX3_init_26 : decode cX3_init 26 = .ok (.iconst 5, 1) := by decide +kernel
theorem dX3_init_27 : decode cX3_init 27 = .ok (.newarray .int, 2) := by decide +kernel
theorem dX3_init_29 : decode cX3_init 29 = .ok (.putfield 21, 3) := by decide +kernel
theorem dX3_init_32 : decode cX3_init 32 = .ok (.return_, 1) := by decide +kernel
theorem dX3_setEmpty_0 : decode cX3_setEmpty 0 = .ok (.aload_n 0, 1) := by decide +kernel
theorem dX3_setEmpty_1 : decode cX3_setEmpty 1 = .ok (.iconst 0, 1) := by decide +kernel
theorem dX3_setEmpty_2 : decode cX3_setEmpty 2 = .ok (.putfield 24, 3) := by decide +kernel
theorem dX3_setEmpty_5 : decode cX3_setEmpty 5 = .ok (.aload_n 0, 1) := by decide +kernel
theorem dX3_setEmpty_6 : decode cX3_setEmpty 6 = .ok (.iconst 0, 1) := by decide +kernel
theorem dX3_setEmpty_7 : decode cX3_setEmpty 7 = .ok (.putfield 28, 3) := by decide +kernel
theorem dX3_setEmpty_10 : decode cX3_setEmpty 10 = .ok (.aload_n 0, 1) := by decide +kernel
theorem dX3_setEmpty_11 : decode cX3_setEmpty 11 = .ok (.iconst 0, 1) := by decide +kernel
theorem dX3_setEmpty_12 : decode cX3_setEmpty 12 = .ok (.putfield 31, 3) := by decide +kernel
theorem dX3_setEmpty_15 : decode cX3_setEmpty 15 = .ok (.aload_n 0, 1) := by decide +kernel
theorem dX3_setEmpty_16 : decode cX3_setEmpty 16 = .ok (.iconst 0, 1) := by decide +kernel
theorem dX3_setEmpty_17 : decode cX3_setEmpty 17 = .ok (.putfield 34, 3) := by decide +kernel
theorem dX3_setEmpty_20 : decode cX3_setEmpty 20 = .ok (.return_, 1) := by decide +kernel
theorem dX3_setAs_0 : decode cX3_setAs 0 = .ok (.aload_n 0, 1) := by decide +kernel
theorem dX3_setAs_1 : decode cX3_setAs 1 = .ok (.aload_n 1, 1) := by decide +kernel
theorem dX3_setAs_2 : decode cX3_setAs 2 = .ok (.getfield 24, 3) := by decide +kernel
theorem dX3_setAs_5 : decode cX3_setAs 5 = .ok (.putfield 24, 3) := by decide +kernel
theorem dX3_setAs_8 : decode cX3_setAs 8 = .ok (.aload_n 0, 1) := by decide +kernel
theorem dX3_setAs_9 : decode cX3_setAs 9 = .ok (.aload_n 1, 1) := by decide +kernel
theorem dX3_setAs_10 : decode cX3_setAs 10 = .ok (.getfield 28, 3) := by decide +kernel
theorem dX3_setAs_13 : decode cX3_setAs 13 = .ok (.putfield 28, 3) := by decide +kernel
theorem dX3_setAs_16 : decode cX3_setAs 16 = .ok (.aload_n 0, 1) := by decide +kernel
theorem dX3_setAs_17 : decode cX3_setAs 17 = .ok (.aload_n 1, 1) := by decide +kernel
theorem dX3_setAs_18 : decode cX3_setAs 18 = .ok (.getfield 31, 3) := by decide +kernel
theorem dX3_setAs_21 : decode cX3_setAs 21 = .ok (.putfield 31, 3) := by decide +kernel
theorem dX3_setAs_24 : decode cX3_setAs 24 = .ok (.aload_n 0, 1) := by decide +kernel
theorem dX3_setAs_25 : decode cX3_setAs 25 = .ok (.aload_n 1, 1) := by decide +kernel
theorem dX3_setAs_26 : decode cX3_setAs 26 = .ok (.getfield 34, 3) := by decide +kernel
theorem dX3_setAs_29 : decode cX3_setAs 29 = .ok (.putfield 34, 3) := by decide +kernel
theorem dX3_setAs_32 : decode cX3_setAs 32 = .ok (.aload_n 1, 1) := by decide +kernel
theorem dX3_setAs_33 : decode cX3_setAs 33 = .ok (.getfield 9, 3) := by decide +kernel
theorem dX3_setAs_36 : decode cX3_setAs 36 = .ok (.iconst 0, 1) := by decide +kernel
theorem dX3_setAs_37 : decode cX3_setAs 37 = .ok (.aload_n 0, 1) := by decide +kernel
theorem dX3_setAs_38 : decode cX3_setAs 38 = .ok (.getfield 9, 3) := by decide +kernel
theorem dX3_setAs_41 : decode cX3_setAs 41 = .ok (.iconst 0, 1) := by decide +kernel
theorem dX3_setAs_42 : decode cX3_setAs 42 = .ok (.iconst 4, 1) := by decide +kernel
theorem dX3_setAs_43 : decode cX3_setAs 43 = .ok (.invokestatic 37, 3) := by decide +kernel
theorem dX3_setAs_46 : decode cX3_setAs 46 = .ok (.aload_n 1, 1) := by decide +kernel
theorem dX3_setAs_47 : decode cX3_setAs 47 = .ok (.getfield 15, 3) := by decide +kernel
theorem dX3_setAs_50 : decode cX3_setAs 50 = .ok (.iconst 0, 1) := by decide +kernel
theorem dX3_setAs_51 : decode cX3_setAs 51 = .ok (.aload_n 0, 1) := by decide +kernel
theorem dX3_setAs_52 : decode cX3_setAs 52 = .ok (.getfield 15, 3) := by decide +kernel
theorem dX3_setAs_55 : decode cX3_setAs 55 = .ok (.iconst 0, 1) := by decide +kernel
theorem dX3_setAs_56 : decode cX3_setAs 56 = .ok (.iconst 5, 1) := by decide +kernel
theorem dX3_setAs_57 : decode cX3_setAs 57 = .ok (.invokestatic 37, 3) := by decide +kernel
theorem dX3_setAs_60 : decode cX3_setAs 60 = .ok (.aload_n 1, 1) := by decide +kernel
theorem dX3_setAs_61 : decode cX3_setAs 61 = .ok (.getfield 18, 3) := by decide +kernel
theorem dX3_setAs_64 : decode cX3_setAs 64 = .ok (.iconst 0, 1) := by decide +kernel
theorem dX3_setAs_65 : decode cX3_setAs 65 = .ok (.aload_n 0, 1) := by decide +kernel
theorem dX3_setAs_66 : decode cX3_setAs 66 = .ok (.getfield 18, 3) := by decide +kernel
theorem dX3_setAs_69 : decode cX3_setAs 69 = .ok (.iconst 0, 1) := by decide +kernel
theorem dX3_setAs_70 : decode cX3_setAs 70 = .ok (.iconst 5, 1) := by decide +kernel
theorem dX3_setAs_71 : decode cX3_setAs 71 = .ok (.invokestatic 37, 3) := by decide +kernel
theorem dX3_setAs_74 : decode cX3_setAs 74 = .ok (.aload_n 1, 1) := by decide +kernel
theorem dX3_setAs_75 : decode cX3_setAs 75 = .ok (.getfield 21, 3) := by decide +kernel
theorem dX3_setAs_78 : decode cX3_setAs 78 = .ok (.iconst 0, 1) := by decide +kernel
theorem dX3_setAs_79 : decode cX3_setAs 79 = .ok (.aload_n 0, 1) := by decide +kernel
theorem dX3_setAs_80 : decode cX3_setAs 80 = .ok (.getfield 21, 3) := by decide +kernel
theorem dX3_setAs_83 : decode cX3_setAs 83 = .ok (.iconst 0, 1) := by decide +kernel
theorem dX3_setAs_84 : decode cX3_setAs 84 = .ok (.iconst 5, 1) := by decide +kernel
theorem dX3_setAs_85 : decode cX3_setAs 85 = .ok (.invokestatic 37, 3) := by decide +kernel
theorem dX3_setAs_88 : decode cX3_setAs 88 = .ok (.return_, 1) := by decide +kernel
set_option maxRecDepth 20000 in
theorem ggX3_setAlone_X3_setEmpty : GoodIn wsX3_setAlone wsX3_setEmpty := goodIn_r _ [6, 7, 8, 9, 10, 22, 23, 24, 25, 26, 27, 28, 29] (by decide +kernel) (by decide +kernel)
set_option maxRecDepth 20000 in
theorem gX3_setAlone_X3_setEmpty : GoodIn wsX3_setAlone (wsV RX3 43 RX3 yX3_setEmpty wsX3_setEmpty) := goodIn_app (goodIn_of _ (by decide +kernel)) ggX3_setAlone_X3_setEmpty
set_option maxRecDepth 20000 in
theorem ggX3_setAlone_X3_addMember : GoodIn wsX3_setAlone wsX3_addMember := goodIn_r _ [14, 7, 15, 22, 23, 24, 25, 26, 27, 28, 29] (by decide +kernel) (by decide +kernel)
set_option maxRecDepth 20000 in
theorem gX3_setAlone_X3_addMember : GoodIn wsX3_setAlone (wsV RX3 46 RX3 yX3_addMember wsX3_addMember) := goodIn_app (goodIn_of _ (by decide +kernel)) ggX3_setAlone_X3_addMember
set_option maxRecDepth 20000 in
theorem ggX3_setAlone_X3_addLeech : GoodIn wsX3_setAlone wsX3_addLeech := goodIn_r _ [19, 8, 20, 1, 21, 22, 23, 24, 25, 26, 27, 28, 29] (by decide +kernel) (by decide +kernel)
set_option maxRecDepth 20000 in
theorem gX3_setAlone_X3_addLeech : GoodIn wsX3_setAlone (wsV RX3 50 RX3 yX3_addLeech wsX3_addLeech) := goodIn_app (goodIn_of _ (by decide +kernel)) ggX3_setAlone_X3_addLeech
theorem dX3_setAlone_0 : decode cX3_setAlone 0 = .ok (.aload_n 0, 1) := by decide +kernel
theorem dX3_setAlone_1 : decode cX3_setAlone 1 = .ok (.invokevirtual 43, 3) := by decide +kernel
theorem dX3_setAlone_4 : decode cX3_setAlone 4 = .ok (.aload_n 0, 1) := by decide +kernel
theorem dX3_setAlone_5 : decode cX3_setAlone 5 = .ok (.iload_n 1, 1) := by decide +kernel
theorem dX3_setAlone_6 : decode cX3_setAlone 6 = .ok (.invokevirtual 46, 3) := by decide +kernel
theorem dX3_setAlone_9 : decode cX3_setAlone 9 = .ok (.aload_n 0, 1) := by decide +kernel
theorem dX3_setAlone_10 : decode cX3_setAlone 10 = .ok (.iload_n 2, 1) := by decide +kernel
theorem dX3_setAlone_11 : decode cX3_setAlone 11 = .ok (.invokevirtual 50, 3) := by decide +kernel
theorem dX3_setAlone_14 : decode cX3_setAlone 14 = .ok (.aload_n 0, 1) := by decide +kernel
theorem dX3_setAlone_15 : decode cX3_setAlone 15 = .ok (.getfield 18, 3) := by decide +kernel
theorem dX3_setAlone_18 : decode cX3_setAlone 18 = .ok (.iconst 0, 1) := by decide +kernel
theorem dX3_setAlone_19 : decode cX3_setAlone 19 = .ok (.iconst 0, 1) := by decide +kernel
theorem dX3_setAlone_20 : decode cX3_setAlone 20 = .ok (.iastore, 1) := by decide +kernel
theorem dX3_setAlone_21 : decode cX3_setAlone 21 = .ok (.return_, 1) := by decide +kernel
theorem dX3_hasMember_0 : decode cX3_hasMember 0 = .ok (.iload_n 1, 1) := by decide +kernel
theorem dX3_hasMember_1 : decode cX3_hasMember 1 = .ok (.ifCond .lt 15, 3) := by decide +kernel
theorem dX3_hasMember_4 : decode cX3_hasMember 4 = .ok (.iload_n 1, 1) := by decide +kernel
theorem dX3_hasMember_5 : decode cX3_hasMember 5 = .ok (.aload_n 0, 1) := by decide +kernel
theorem dX3_hasMember_6 : decode cX3_hasMember 6 = .ok (.getfield 24, 3) := by decide +kernel
theorem dX3_hasMember_9 : decode cX3_hasMember 9 = .ok (.if_icmp .ge 7, 3) := by decide +kernel
theorem dX3_hasMember_12 : decode cX3_hasMember 12 = .ok (.iconst 1, 1) := by decide +kernel
theorem dX3_hasMember_13 : decode cX3_hasMember 13 = .ok (.goto 4, 3) := by decide +kernel
theorem dX3_hasMember_16 : decode cX3_hasMember 16 = .ok (.iconst 0, 1) := by decide +kernel
theorem dX3_hasMember_17 : decode cX3_hasMember 17 = .ok (.ireturn, 1) := by decide +kernel
theorem dX3_hasLeech_0 : decode cX3_hasLeech 0 = .ok (.iload_n 1, 1) := by decide +kernel
theorem dX3_hasLeech_1 : decode cX3_hasLeech 1 = .ok (.ifCond .lt 15, 3) := by decide +kernel
theorem dX3_hasLeech_4 : decode cX3_hasLeech 4 = .ok (.iload_n 1, 1) := by decide +kernel
theorem dX3_hasLeech_5 : decode cX3_hasLeech 5 = .ok (.aload_n 0, 1) := by decide +kernel
theorem dX3_hasLeech_6 : decode cX3_hasLeech 6 = .ok (.getfield 28, 3) := by decide +kernel
theorem dX3_hasLeech_9 : decode cX3_hasLeech 9 = .ok (.if_icmp .ge 7, 3) := by decide +kernel
theorem dX3_hasLeech_12 : decode cX3_hasLeech 12 = .ok (.iconst 1, 1) := by decide +kernel
theorem dX3_hasLeech_13 : decode cX3_hasLeech 13 = .ok (.goto 4, 3) := by decide +kernel
theorem dX3_hasLeech_16 : decode cX3_hasLeech 16 = .ok (.iconst 0, 1) := by decide +kernel
theorem dX3_hasLeech_17 : decode cX3_hasLeech 17 = .ok (.ireturn, 1) := by decide +kernel
theorem dX3_addMember_0 : decode cX3_addMember 0 = .ok (.aload_n 0, 1) := by decide +kernel
theorem dX3_addMember_1 : decode cX3_addMember 1 = .ok (.getfield 24, 3) := by decide +kernel
theorem dX3_addMember_4 : decode cX3_addMember 4 = .ok (.iconst 4, 1) := by decide +kernel
theorem dX3_addMember_5 : decode cX3_addMember 5 = .ok (.if_icmp .ge 23, 3) := by decide +kernel
theorem dX3_addMember_8 : decode cX3_addMember 8 = .ok (.aload_n 0, 1) := by decide +kernel
theorem dX3_addMember_9 : decode cX3_addMember 9 = .ok (.getfield 9, 3) := by decide +kernel
theorem dX3_addMember_12 : decode cX3_addMember 12 = .ok (.aload_n 0, 1) := by decide +kernel
theorem dX3_addMember_13 : decode cX3_addMember 13 = .ok (.getfield 24, 3) := by decide +kernel
theorem dX3_addMember_16 : decode cX3_addMember 16 = .ok (.iload_n 1, 1) := by decide +kernel
theorem dX3_addMember_17 : decode cX3_addMember 17 = .ok (.iastore, 1) := by decide +kernel
theorem dX3_addMember_18 : decode cX3_addMember 18 = .ok (.aload_n 0, 1) := by decide +kernel
theorem dX3_addMember_19 : decode cX3_addMember 19 = .ok (.dup, 1) := by decide +kernel
theorem dX3_addMember_20 : decode cX3_addMember 20 = .ok (.getfield 24, 3) := by decide +kernel
theorem dX3_addMember_23 : decode cX3_addMember 23 = .ok (.iconst 1, 1) := by decide +kernel
theorem dX3_addMember_24 : decode cX3_addMember 24 = .ok (.iadd, 1) := by decide +kernel
theorem dX3_addMember_25 : decode cX3_addMember 25 = .ok (.putfield 24, 3) := by decide +kernel
theorem dX3_addMember_28 : decode cX3_addMember 28 = .ok (.return_, 1) := by decide +kernel
theorem dX3_addLeech_0 : decode cX3_addLeech 0 = .ok (.aload_n 0, 1) := by decide +kernel
theorem dX3_addLeech_1 : decode cX3_addLeech 1 = .ok (.getfield 28, 3) := by decide +kernel
theorem dX3_addLeech_4 : decode cX3_addLeech 4 = .ok (.iconst 5, 1) := by decide +kernel
theorem dX3_addLeech_5 : decode cX3_addLeech 5 = .ok (.if_icmp .ge 43, 3) := by decide +kernel
theorem dX3_addLeech_8 : decode cX3_addLeech 8 = .ok (.aload_n 0, 1) := by decide +kernel
theorem dX3_addLeech_9 : decode cX3_addLeech 9 = .ok (.getfield 15, 3) := by decide +kernel
theorem dX3_addLeech_12 : decode cX3_addLeech 12 = .ok (.aload_n 0, 1) := by decide +kernel
theorem dX3_addLeech_13 : decode cX3_addLeech 13 = .ok (.getfield 28, 3) := by decide +kernel
theorem dX3_addLeech_16 : decode cX3_addLeech 16 = .ok (.iload_n 1, 1) := by decide +kernel
theorem dX3_addLeech_17 : decode cX3_addLeech 17 = .ok (.iastore, 1) := by decide +kernel
theorem dX3_addLeech_18 : decode cX3_addLeech 18 = .ok (.aload_n 0, 1) := by decide +kernel
theorem dX3_addLeech_19 : decode cX3_addLeech 19 = .ok (.getfield 18, 3) := by decide +kernel
theorem dX3_addLeech_22 : decode cX3_addLeech 22 = .ok (.aload_n 0, 1) := by decide +kernel
theorem dX3_addLeech_23 : decode cX3_addLeech 23 = .ok (.getfield 28, 3) := by decide +kernel
theorem dX3_addLeech_26 : decode cX3_addLeech 26 = .ok (.iconst (-1), 1) := by decide +kernel
theorem dX3_addLeech_27 : decode cX3_addLeech 27 = .ok (.iastore, 1) := by decide +kernel
theorem dX3_addLeech_28 : decode cX3_addLeech 28 = .ok (.aload_n 0, 1) := by decide +kernel
theorem dX3_addLeech_29 : decode cX3_addLeech 29 = .ok (.getfield 21, 3) := by decide +kernel
theorem dX3_addLeech_32 : decode cX3_addLeech 32 = .ok (.aload_n 0, 1) := by decide +kernel
theorem dX3_addLeech_33 : decode cX3_addLeech 33 = .ok (.getfield 28, 3) := by decide +kernel
theorem dX3_addLeech_36 : decode cX3_addLeech 36 = .ok (.iconst 0, 1) := by decide +kernel
theorem dX3_addLeech_37 : decode cX3_addLeech 37 = .ok (.iastore, 1) := by decide +kernel
theorem dX3_addLeech_38 : decode cX3_addLeech 38 = .ok (.aload_n 0, 1) := by decide +kernel
theorem dX3_addLeech_39 : decode cX3_addLeech 39 = .ok (.dup, 1) := by decide +kernel
theorem dX3_addLeech_40 : decode cX3_addLeech 40 = .ok (.getfield 28, 3) := by decide +kernel
theorem dX3_addLeech_43 : decode cX3_addLeech 43 = .ok (.iconst 1, 1) := by decide +kernel
theorem dX3_addLeech_44 : decode cX3_addLeech 44 = .ok (.iadd, 1) := by decide +kernel
theorem dX3_addLeech_45 : decode cX3_addLeech 45 = .ok (.putfield 28, 3) := by decide +kernel
theorem dX3_addLeech_48 : decode cX3_addLeech 48 = .ok (.return_, 1) := by decide +kernel
set_option maxRecDepth 20000 in
theorem ggX3_putAll_X7_hasBit : GoodIn wsX3_putAll wsX7_hasBit := goodIn_r _ [5] (by decide +kernel) (by decide +kernel)
set_option maxRecDepth 20000 in
theorem gX3_putAll_X7_hasBit_n53 : GoodIn wsX3_putAll (wsX7_hasBit) := ggX3_putAll_X7_hasBit
theorem dX3_putAll_0 : decode cX3_putAll 0 = .ok (.iconst 0, 1) := by decide +kernel
theorem dX3_putAll_1 : decode cX3_putAll 1 = .ok (.istore_n 3, 1) := by decide +kernel
theorem dX3_putAll_2 : decode cX3_putAll 2 = .ok (.iload_n 3, 1) := by decide +kernel
theorem dX3_putAll_3 : decode cX3_putAll 3 = .ok (.aload_n 0, 1) := by decide +kernel
theorem dX3_putAll_4 : decode cX3_putAll 4 = .ok (.getfield 28, 3) := by decide +kernel
theorem dX3_putAll_7 : decode cX3_putAll 7 = .ok (.if_icmp .ge 24, 3) := by decide +kernel
theorem dX3_putAll_10 : decode cX3_putAll 10 = .ok (.iload_n 1, 1) := by decide +kernel
theorem dX3_putAll_11 : decode cX3_putAll 11 = .ok (.iload_n 3, 1) := by decide +kernel
theorem dX3_putAll_12 : decode cX3_putAll 12 = .ok (.invokestatic 53, 3) := by decide +kernel
theorem dX3_putAll_15 : decode cX3_putAll 15 = .ok (.ifCond .eq 10, 3) := by decide +kernel
theorem dX3_putAll_18 : decode cX3_putAll 18 = .ok (.aload_n 0, 1) := by decide +kernel
theorem dX3_putAll_19 : decode cX3_putAll 19 = .ok (.getfield 18, 3) := by decide +kernel
theorem dX3_putAll_22 : decode cX3_putAll 22 = .ok (.iload_n 3, 1) := by decide +kernel
theorem dX3_putAll_23 : decode cX3_putAll 23 = .ok (.iload_n 2, 1) := by decide +kernel
theorem dX3_putAll_24 : decode cX3_putAll 24 = .ok (.iastore, 1) := by decide +kernel
theorem dX3_putAll_25 : decode cX3_putAll 25 = .ok (.iinc 3 1, 3) := by decide +kernel
theorem dX3_putAll_28 : decode cX3_putAll 28 = .ok (.goto (-26), 3) := by decide +kernel
theorem dX3_putAll_31 : decode cX3_putAll 31 = .ok (.return_, 1) := by decide +kernel
theorem dX3_leechesOn_0 : decode cX3_leechesOn 0 = .ok (.iconst 0, 1) := by decide +kernel
theorem dX3_leechesOn_1 : decode cX3_leechesOn 1 = .ok (.istore_n 2, 1) := by decide +kernel
theorem dX3_leechesOn_2 : decode cX3_leechesOn 2 = .ok (.iconst 0, 1) := by decide +kernel
theorem dX3_leechesOn_3 : decode cX3_leechesOn 3 = .ok (.istore_n 3, 1) := by decide +kernel
theorem dX3_leechesOn_4 : decode cX3_leechesOn 4 = .ok (.iload_n 3, 1) := by decide +kernel
theorem dX3_leechesOn_5 : decode cX3_leechesOn 5 = .ok (.aload_n 0, 1) := by decide +kernel
theorem dX3_leechesOn_6 : decode cX3_leechesOn 6 = .ok (.getfield 28, 3) := by decide +kernel
theorem dX3_leechesOn_9 : decode cX3_leechesOn 9 = .ok (.if_icmp .ge 25, 3) := by decide +kernel
theorem dX3_leechesOn_12 : decode cX3_leechesOn 12 = .ok (.aload_n 0, 1) := by decide +kernel
theorem dX3_leechesOn_13 : decode cX3_leechesOn 13 = .ok (.getfield 18, 3) := by decide +kernel
theorem dX3_leechesOn_16 : decode cX3_leechesOn 16 = .ok (.iload_n 3, 1) := by decide +kernel
theorem dX3_leechesOn_17 : decode cX3_leechesOn 17 = .ok (.iaload, 1) := by decide +kernel
theorem dX3_leechesOn_18 : decode cX3_leechesOn 18 = .ok (.iload_n 1, 1) := by decide +kernel
theorem dX3_leechesOn_19 : decode cX3_leechesOn 19 = .ok (.if_icmp .ne 9, 3) := by decide +kernel
theorem dX3_leechesOn_22 : decode cX3_leechesOn 22 = .ok (.iload_n 2, 1) := by decide +kernel
theorem dX3_leechesOn_23 : decode cX3_leechesOn 23 = .ok (.iconst 1, 1) := by decide +kernel
theorem dX3_leechesOn_24 : decode cX3_leechesOn 24 = .ok (.iload_n 3, 1) := by decide +kernel
theorem dX3_leechesOn_25 : decode cX3_leechesOn 25 = .ok (.ishl, 1) := by decide +kernel
theorem dX3_leechesOn_26 : decode cX3_leechesOn 26 = .ok (.ior, 1) := by decide +kernel
theorem dX3_leechesOn_27 : decode cX3_leechesOn 27 = .ok (.istore_n 2, 1) := by decide +kernel
theorem dX3_leechesOn_28 : decode cX3_leechesOn 28 = .ok (.iinc 3 1, 3) := by decide +kernel
theorem dX3_leechesOn_31 : decode cX3_leechesOn 31 = .ok (.goto (-27), 3) := by decide +kernel
theorem dX3_leechesOn_34 : decode cX3_leechesOn 34 = .ok (.iload_n 2, 1) := by decide +kernel
theorem dX3_leechesOn_35 : decode cX3_leechesOn 35 = .ok (.ireturn, 1) := by decide +kernel
theorem dX3_known_0 : decode cX3_known 0 = .ok (.iconst 0, 1) := by decide +kernel
theorem dX3_known_1 : decode cX3_known 1 = .ok (.istore_n 1, 1) := by decide +kernel
theorem dX3_known_2 : decode cX3_known 2 = .ok (.iconst 0, 1) := by decide +kernel
theorem dX3_known_3 : decode cX3_known 3 = .ok (.istore_n 2, 1) := by decide +kernel
theorem dX3_known_4 : decode cX3_known 4 = .ok (.iload_n 2, 1) := by decide +kernel
theorem dX3_known_5 : decode cX3_known 5 = .ok (.aload_n 0, 1) := by decide +kernel
theorem dX3_known_6 : decode cX3_known 6 = .ok (.getfield 24, 3) := by decide +kernel
theorem dX3_known_9 : decode cX3_known 9 = .ok (.if_icmp .ge 18, 3) := by decide +kernel
theorem dX3_known_12 : decode cX3_known 12 = .ok (.iload_n 1, 1) := by decide +kernel
theorem dX3_known_13 : decode cX3_known 13 = .ok (.aload_n 0, 1) := by decide +kernel
theorem dX3_known_14 : decode cX3_known 14 = .ok (.getfield 9, 3) := by decide +kernel
theorem dX3_known_17 : decode cX3_known 17 = .ok (.iload_n 2, 1) := by decide +kernel
theorem dX3_known_18 : decode cX3_known 18 = .ok (.iaload, 1) := by decide +kernel
theorem dX3_known_19 : decode cX3_known 19 = .ok (.ior, 1) := by decide +kernel
theorem dX3_known_20 : decode cX3_known 20 = .ok (.istore_n 1, 1) := by decide +kernel
theorem dX3_known_21 : decode cX3_known 21 = .ok (.iinc 2 1, 3) := by decide +kernel
theorem dX3_known_24 : decode cX3_known 24 = .ok (.goto (-20), 3) := by decide +kernel
theorem dX3_known_27 : decode cX3_known 27 = .ok (.iload_n 1, 1) := by decide +kernel
theorem dX3_known_28 : decode cX3_known 28 = .ok (.ireturn, 1) := by decide +kernel
set_option maxRecDepth 20000 in
theorem ggX3_pass_X3_hasMember : GoodIn wsX3_pass wsX3_hasMember := goodIn_r _ [8, 9, 39, 40, 41, 42, 43, 44, 45, 46] (by decide +kernel) (by decide +kernel)
set_option maxRecDepth 20000 in
theorem gX3_pass_X3_hasMember : GoodIn wsX3_pass (wsV RX3 57 RX3 yX3_hasMember wsX3_hasMember) := goodIn_app (goodIn_of _ (by decide +kernel)) ggX3_pass_X3_hasMember
set_option maxRecDepth 20000 in
theorem ggX3_pass_X3_feed : GoodIn wsX3_pass wsX3_feed := goodIn_r _ [13, 14, 15, 16, 17, 2, 18, 19, 20, 7, 21, 22, 23, 24, 25, 26, 27, 28, 29, 30, 31, 32, 33, 34, 35, 36, 37, 38, 39, 40, 41, 42, 43, 44, 45, 46, 47, 48, 49, 50] (by decide +kernel) (by decide +kernel)
set_option maxRecDepth 20000 in
theorem gX3_pass_X3_feed : GoodIn wsX3_pass (wsV RX3 61 RX3 yX3_feed wsX3_feed) := goodIn_app (goodIn_of _ (by decide +kernel)) ggX3_pass_X3_feed
theorem dX3_pass_0 : decode cX3_pass 0 = .ok (.iconst 0, 1) := by decide +kernel
theorem dX3_pass_1 : decode cX3_pass 1 = .ok (.istore_n 3, 1) := by decide +kernel
theorem dX3_pass_2 : decode cX3_pass 2 = .ok (.iload_n 3, 1) := by decide +kernel
theorem dX3_pass_3 : decode cX3_pass 3 = .ok (.iload_n 2, 1) := by decide +kernel
theorem dX3_pass_4 : decode cX3_pass 4 = .ok (.if_icmp .ge 65, 3) := by decide +kernel
theorem dX3_pass_7 : decode cX3_pass 7 = .ok (.iconst 0, 1) := by decide +kernel
theorem dX3_pass_8 : decode cX3_pass 8 = .ok (.istore 4, 2) := by decide +kernel
theorem dX3_pass_10 : decode cX3_pass 10 = .ok (.iload 4, 2) := by decide +kernel
theorem dX3_pass_12 : decode cX3_pass 12 = .ok (.aload_n 0, 1) := by decide +kernel
theorem dX3_pass_13 : decode cX3_pass 13 = .ok (.getfield 28, 3) := by decide +kernel
theorem dX3_pass_16 : decode cX3_pass 16 = .ok (.if_icmp .ge 37, 3) := by decide +kernel
theorem dX3_pass_19 : decode cX3_pass 19 = .ok (.aload_n 0, 1) := by decide +kernel
theorem dX3_pass_20 : decode cX3_pass 20 = .ok (.aload_n 0, 1) := by decide +kernel
theorem dX3_pass_21 : decode cX3_pass 21 = .ok (.getfield 18, 3) := by decide +kernel
theorem dX3_pass_24 : decode cX3_pass 24 = .ok (.iload 4, 2) := by decide +kernel
theorem dX3_pass_26 : decode cX3_pass 26 = .ok (.iaload, 1) := by decide +kernel
theorem dX3_pass_27 : decode cX3_pass 27 = .ok (.invokevirtual 57, 3) := by decide +kernel
theorem dX3_pass_30 : decode cX3_pass 30 = .ok (.ifCond .eq 17, 3) := by decide +kernel
theorem dX3_pass_33 : decode cX3_pass 33 = .ok (.aload_n 0, 1) := by decide +kernel
theorem dX3_pass_34 : decode cX3_pass 34 = .ok (.aload_n 1, 1) := by decide +kernel
theorem dX3_pass_35 : decode cX3_pass 35 = .ok (.iload 4, 2) := by decide +kernel
theorem dX3_pass_37 : decode cX3_pass 37 = .ok (.aload_n 0, 1) := by decide +kernel
theorem dX3_pass_38 : decode cX3_pass 38 = .ok (.getfield 18, 3) := by decide +kernel
theorem dX3_pass_41 : decode cX3_pass 41 = .ok (.iload 4, 2) := by decide +kernel
theorem dX3_pass_43 : decode cX3_pass 43 = .ok (.iaload, 1) := by decide +kernel
theorem dX3_pass_44 : decode cX3_pass 44 = .ok (.invokevirtual 61, 3) := by decide +kernel
theorem dX3_pass_47 : decode cX3_pass 47 = .ok (.iinc 4 1, 3) := by decide +kernel
theorem dX3_pass_50 : decode cX3_pass 50 = .ok (.goto (-40), 3) := by decide +kernel
theorem dX3_pass_53 : decode cX3_pass 53 = .ok (.aload_n 0, 1) := by decide +kernel
theorem dX3_pass_54 : decode cX3_pass 54 = .ok (.dup, 1) := by decide +kernel
theorem dX3_pass_55 : decode cX3_pass 55 = .ok (.getfield 34, 3) := by decide +kernel
theorem dX3_pass_58 : decode cX3_pass 58 = .ok (.iconst 1, 1) := by decide +kernel
theorem dX3_pass_59 : decode cX3_pass 59 = .ok (.iadd, 1) := by decide +kernel
theorem dX3_pass_60 : decode cX3_pass 60 = .ok (.putfield 34, 3) := by decide +kernel
theorem dX3_pass_63 : decode cX3_pass 63 = .ok (.iinc 3 1, 3) := by decide +kernel
theorem dX3_pass_66 : decode cX3_pass 66 = .ok (.goto (-64), 3) := by decide +kernel
theorem dX3_pass_69 : decode cX3_pass 69 = .ok (.return_, 1) := by decide +kernel
set_option maxRecDepth 20000 in
theorem ggX3_feed_X3_isSated : GoodIn wsX3_feed wsX3_isSated := goodIn_r _ [10, 3, 1, 11, 12, 13, 14, 15, 16, 17, 28, 29, 30, 31, 32, 33, 34, 35] (by decide +kernel) (by decide +kernel)
set_option maxRecDepth 20000 in
theorem gX3_feed_X3_isSated : GoodIn wsX3_feed (wsV RX3 68 RX3 yX3_isSated wsX3_isSated) := goodIn_app (goodIn_of _ (by decide +kernel)) ggX3_feed_X3_isSated
set_option maxRecDepth 20000 in
theorem ggX3_feed_X3_nextFact : GoodIn wsX3_feed wsX3_nextFact := goodIn_r _ [20, 21, 22, 13, 23, 24, 25, 26, 27] (by decide +kernel) (by decide +kernel)
set_option maxRecDepth 20000 in
theorem gX3_feed_X3_nextFact : GoodIn wsX3_feed (va_wsS RX3 71 yX3_nextFact wsX3_nextFact) := goodIn_app (goodIn_of _ (by decide +kernel)) ggX3_feed_X3_nextFact
theorem dX3_feed_0 : decode cX3_feed 0 = .ok (.getstatic 65, 3) := by decide +kernel
theorem dX3_feed_3 : decode cX3_feed 3 = .ok (.aload_n 0, 1) := by decide +kernel
theorem dX3_feed_4 : decode cX3_feed 4 = .ok (.getfield 15, 3) := by decide +kernel
theorem dX3_feed_7 : decode cX3_feed 7 = .ok (.iload_n 2, 1) := by decide +kernel
theorem dX3_feed_8 : decode cX3_feed 8 = .ok (.iaload, 1) := by decide +kernel
theorem dX3_feed_9 : decode cX3_feed 9 = .ok (.iaload, 1) := by decide +kernel
theorem dX3_feed_10 : decode cX3_feed 10 = .ok (.istore 4, 2) := by decide +kernel
theorem dX3_feed_12 : decode cX3_feed 12 = .ok (.iconst 0, 1) := by decide +kernel
theorem dX3_feed_13 : decode cX3_feed 13 = .ok (.istore 5, 2) := by decide +kernel
theorem dX3_feed_15 : decode cX3_feed 15 = .ok (.iload 5, 2) := by decide +kernel
theorem dX3_feed_17 : decode cX3_feed 17 = .ok (.iload 4, 2) := by decide +kernel
theorem dX3_feed_19 : decode cX3_feed 19 = .ok (.if_icmp .ge 74, 3) := by decide +kernel
theorem dX3_feed_22 : decode cX3_feed 22 = .ok (.aload_n 0, 1) := by decide +kernel
theorem dX3_feed_23 : decode cX3_feed 23 = .ok (.iload_n 2, 1) := by decide +kernel
theorem dX3_feed_24 : decode cX3_feed 24 = .ok (.invokevirtual 68, 3) := by decide +kernel
theorem dX3_feed_27 : decode cX3_feed 27 = .ok (.ifCond .ne 66, 3) := by decide +kernel
theorem dX3_feed_30 : decode cX3_feed 30 = .ok (.aload_n 0, 1) := by decide +kernel
theorem dX3_feed_31 : decode cX3_feed 31 = .ok (.getfield 9, 3) := by decide +kernel
theorem dX3_feed_34 : decode cX3_feed 34 = .ok (.iload_n 3, 1) := by decide +kernel
theorem dX3_feed_35 : decode cX3_feed 35 = .ok (.iaload, 1) := by decide +kernel
theorem dX3_feed_36 : decode cX3_feed 36 = .ok (.ifCond .eq 57, 3) := by decide +kernel
theorem dX3_feed_39 : decode cX3_feed 39 = .ok (.aload_n 0, 1) := by decide +kernel
theorem dX3_feed_40 : decode cX3_feed 40 = .ok (.getfield 15, 3) := by decide +kernel
theorem dX3_feed_43 : decode cX3_feed 43 = .ok (.iload_n 2, 1) := by decide +kernel
theorem dX3_feed_44 : decode cX3_feed 44 = .ok (.iaload, 1) := by decide +kernel
theorem dX3_feed_45 : decode cX3_feed 45 = .ok (.aload_n 0, 1) := by decide +kernel
theorem dX3_feed_46 : decode cX3_feed 46 = .ok (.getfield 9, 3) := by decide +kernel
theorem dX3_feed_49 : decode cX3_feed 49 = .ok (.iload_n 3, 1) := by decide +kernel
theorem dX3_feed_50 : decode cX3_feed 50 = .ok (.iaload, 1) := by decide +kernel
theorem dX3_feed_51 : decode cX3_feed 51 = .ok (.invokestatic 71, 3) := by decide +kernel
theorem dX3_feed_54 : decode cX3_feed 54 = .ok (.istore 6, 2) := by decide +kernel
theorem dX3_feed_56 : decode cX3_feed 56 = .ok (.aload_n 0, 1) := by decide +kernel
theorem dX3_feed_57 : decode cX3_feed 57 = .ok (.getfield 21, 3) := by decide +kernel
theorem dX3_feed_60 : decode cX3_feed 60 = .ok (.iload_n 2, 1) := by decide +kernel
theorem dX3_feed_61 : decode cX3_feed 61 = .ok (.dup2, 1) := by decide +kernel
theorem dX3_feed_62 : decode cX3_feed 62 = .ok (.iaload, 1) := by decide +kernel
theorem dX3_feed_63 : decode cX3_feed 63 = .ok (.iconst 1, 1) := by decide +kernel
theorem dX3_feed_64 : decode cX3_feed 64 = .ok (.iload 6, 2) := by decide +kernel
theorem dX3_feed_66 : decode cX3_feed 66 = .ok (.ishl, 1) := by decide +kernel
theorem dX3_feed_67 : decode cX3_feed 67 = .ok (.ior, 1) := by decide +kernel
theorem dX3_feed_68 : decode cX3_feed 68 = .ok (.iastore, 1) := by decide +kernel
theorem dX3_feed_69 : decode cX3_feed 69 = .ok (.aload_n 0, 1) := by decide +kernel
theorem dX3_feed_70 : decode cX3_feed 70 = .ok (.getfield 9, 3) := by decide +kernel
theorem dX3_feed_73 : decode cX3_feed 73 = .ok (.iload_n 3, 1) := by decide +kernel
theorem dX3_feed_74 : decode cX3_feed 74 = .ok (.dup2, 1) := by decide +kernel
theorem dX3_feed_75 : decode cX3_feed 75 = .ok (.iaload, 1) := by decide +kernel
theorem dX3_feed_76 : decode cX3_feed 76 = .ok (.aload_n 1, 1) := by decide +kernel
theorem dX3_feed_77 : decode cX3_feed 77 = .ok (.getfield 75, 3) := by decide +kernel
theorem dX3_feed_80 : decode cX3_feed 80 = .ok (.iload 6, 2) := by decide +kernel
theorem dX3_feed_82 : decode cX3_feed 82 = .ok (.iaload, 1) := by decide +kernel
theorem dX3_feed_83 : decode cX3_feed 83 = .ok (.iconst (-1), 1) := by decide +kernel
theorem dX3_feed_84 : decode cX3_feed 84 = .ok (.ixor, 1) := by decide +kernel
theorem dX3_feed_85 : decode cX3_feed 85 = .ok (.iand, 1) := by decide +kernel
theorem dX3_feed_86 : decode cX3_feed 86 = .ok (.iastore, 1) := by decide +kernel
theorem dX3_feed_87 : decode cX3_feed 87 = .ok (.iinc 5 1, 3) := by decide +kernel
theorem dX3_feed_90 : decode cX3_feed 90 = .ok (.goto (-75), 3) := by decide +kernel
theorem dX3_feed_93 : decode cX3_feed 93 = .ok (.aload_n 0, 1) := by decide +kernel
theorem dX3_feed_94 : decode cX3_feed 94 = .ok (.iload_n 2, 1) := by decide +kernel
theorem dX3_feed_95 : decode cX3_feed 95 = .ok (.invokevirtual 68, 3) := by decide +kernel
theorem dX3_feed_98 : decode cX3_feed 98 = .ok (.ifCond .eq 10, 3) := by decide +kernel
theorem dX3_feed_101 : decode cX3_feed 101 = .ok (.aload_n 0, 1) := by decide +kernel
theorem dX3_feed_102 : decode cX3_feed 102 = .ok (.getfield 18, 3) := by decide +kernel
