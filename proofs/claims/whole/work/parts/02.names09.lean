theorem dX7_foretellPuts_76 : decode cX7_foretellPuts 76 = .ok (.getfield 116, 3) := by decide +kernel
theorem dX7_foretellPuts_79 : decode cX7_foretellPuts 79 = .ok (.iload_n 1, 1) := by decide +kernel
theorem dX7_foretellPuts_80 : decode cX7_foretellPuts 80 = .ok (.iaload, 1) := by decide +kernel
theorem dX7_foretellPuts_81 : decode cX7_foretellPuts 81 = .ok (.iastore, 1) := by decide +kernel
theorem dX7_foretellPuts_82 : decode cX7_foretellPuts 82 = .ok (.iinc 4 1, 3) := by decide +kernel
theorem dX7_foretellPuts_85 : decode cX7_foretellPuts 85 = .ok (.goto (-73), 3) := by decide +kernel
theorem dX7_foretellPuts_88 : decode cX7_foretellPuts 88 = .ok (.return_, 1) := by decide +kernel
set_option maxRecDepth 20000 in
theorem ggX7_kindsThatFit_X7_fitsAll : GoodIn wsX7_kindsThatFit wsX7_fitsAll := goodIn_r _ [5, 6, 7, 8, 9, 10, 11, 12, 13, 14, 15, 16, 17, 18, 19, 20, 21, 22, 4, 23, 24, 25, 26, 27, 28, 29, 30, 31, 32, 33, 34, 35, 36, 37, 38, 39, 40, 41, 42, 43, 44, 45, 46, 47, 48, 49, 50, 51, 52, 53, 54, 55, 56, 57, 58, 59, 60, 61, 62, 63, 64, 65, 66, 67, 68, 69, 70, 71, 72, 73, 74, 75, 76, 77, 78, 79, 80, 81, 82, 83, 84, 85, 86, 87, 88, 89, 90, 91, 92, 93, 94, 95, 96, 97, 98, 99, 100, 101, 102, 103, 104, 105, 106, 107, 108, 109] (by decide +kernel) (by decide +kernel)
set_option maxRecDepth 20000 in
theorem gX7_kindsThatFit_X7_fitsAll : GoodIn wsX7_kindsThatFit (wsV RX7 313 RX7 yX7_fitsAll wsX7_fitsAll) := goodIn_app (goodIn_of _ (by decide +kernel)) ggX7_kindsThatFit_X7_fitsAll
theorem dX7_kindsThatFit_0 : decode cX7_kindsThatFit 0 = .ok (.iconst 0, 1) := by decide +kernel
theorem dX7_kindsThatFit_1 : decode cX7_kindsThatFit 1 = .ok (.istore_n 1, 1) := by decide +kernel
theorem dX7_kindsThatFit_2 : decode cX7_kindsThatFit 2 = .ok (.iconst 0, 1) := by decide +kernel
theorem dX7_kindsThatFit_3 : decode cX7_kindsThatFit 3 = .ok (.istore_n 2, 1) := by decide +kernel
theorem dX7_kindsThatFit_4 : decode cX7_kindsThatFit 4 = .ok (.iload_n 2, 1) := by decide +kernel
theorem dX7_kindsThatFit_5 : decode cX7_kindsThatFit 5 = .ok (.iconst 5, 1) := by decide +kernel
theorem dX7_kindsThatFit_6 : decode cX7_kindsThatFit 6 = .ok (.if_icmp .ge 23, 3) := by decide +kernel
theorem dX7_kindsThatFit_9 : decode cX7_kindsThatFit 9 = .ok (.aload_n 0, 1) := by decide +kernel
theorem dX7_kindsThatFit_10 : decode cX7_kindsThatFit 10 = .ok (.iload_n 2, 1) := by decide +kernel
theorem dX7_kindsThatFit_11 : decode cX7_kindsThatFit 11 = .ok (.invokevirtual 313, 3) := by decide +kernel
theorem dX7_kindsThatFit_14 : decode cX7_kindsThatFit 14 = .ok (.ifCond .eq 9, 3) := by decide +kernel
theorem dX7_kindsThatFit_17 : decode cX7_kindsThatFit 17 = .ok (.iload_n 1, 1) := by decide +kernel
theorem dX7_kindsThatFit_18 : decode cX7_kindsThatFit 18 = .ok (.iconst 1, 1) := by decide +kernel
theorem dX7_kindsThatFit_19 : decode cX7_kindsThatFit 19 = .ok (.iload_n 2, 1) := by decide +kernel
theorem dX7_kindsThatFit_20 : decode cX7_kindsThatFit 20 = .ok (.ishl, 1) := by decide +kernel
theorem dX7_kindsThatFit_21 : decode cX7_kindsThatFit 21 = .ok (.ior, 1) := by decide +kernel
theorem dX7_kindsThatFit_22 : decode cX7_kindsThatFit 22 = .ok (.istore_n 1, 1) := by decide +kernel
theorem dX7_kindsThatFit_23 : decode cX7_kindsThatFit 23 = .ok (.iinc 2 1, 3) := by decide +kernel
theorem dX7_kindsThatFit_26 : decode cX7_kindsThatFit 26 = .ok (.goto (-22), 3) := by decide +kernel
theorem dX7_kindsThatFit_29 : decode cX7_kindsThatFit 29 = .ok (.iload_n 1, 1) := by decide +kernel
theorem dX7_kindsThatFit_30 : decode cX7_kindsThatFit 30 = .ok (.ireturn, 1) := by decide +kernel
set_option maxRecDepth 20000 in
theorem ggX7_fitsAll_X3_hasMember : GoodIn wsX7_fitsAll wsX3_hasMember := goodIn_r _ [13, 14, 94, 95, 96, 97, 98, 99, 100, 101] (by decide +kernel) (by decide +kernel)
set_option maxRecDepth 20000 in
theorem gX7_fitsAll_X3_hasMember : GoodIn wsX7_fitsAll (wsV RX7 132 RX3 yX3_hasMember wsX3_hasMember) := goodIn_app (goodIn_of _ (by decide +kernel)) ggX7_fitsAll_X3_hasMember
set_option maxRecDepth 20000 in
theorem ggX7_fitsAll_X7_knownAfterAlone : GoodIn wsX7_fitsAll wsX7_knownAfterAlone := goodIn_r _ [19, 20, 21, 5, 22, 23, 24, 12, 25, 26, 27, 28, 29, 30, 14, 31, 32, 33, 34, 35, 36, 37, 38, 39, 40, 41, 42, 43, 44, 45, 46, 47, 48, 49, 10, 11, 13, 50, 51, 52, 53, 54, 55, 56, 57, 58, 59, 60, 61, 62, 63, 64, 65, 66, 67, 68, 69, 70, 71, 72, 73, 74, 75, 76, 77, 78, 79, 80, 81, 82, 83, 84, 85, 86, 87, 88, 94, 95, 96, 97, 98, 99, 100, 101, 102, 103, 104, 105] (by decide +kernel) (by decide +kernel)
set_option maxRecDepth 20000 in
theorem gX7_fitsAll_X7_knownAfterAlone : GoodIn wsX7_fitsAll (wsV RX7 303 RX7 yX7_knownAfterAlone wsX7_knownAfterAlone) := goodIn_app (goodIn_of _ (by decide +kernel)) ggX7_fitsAll_X7_knownAfterAlone
theorem dX7_fitsAll_0 : decode cX7_fitsAll 0 = .ok (.iconst 0, 1) := by decide +kernel
theorem dX7_fitsAll_1 : decode cX7_fitsAll 1 = .ok (.istore_n 2, 1) := by decide +kernel
theorem dX7_fitsAll_2 : decode cX7_fitsAll 2 = .ok (.iload_n 2, 1) := by decide +kernel
theorem dX7_fitsAll_3 : decode cX7_fitsAll 3 = .ok (.aload_n 0, 1) := by decide +kernel
theorem dX7_fitsAll_4 : decode cX7_fitsAll 4 = .ok (.getfield 46, 3) := by decide +kernel
theorem dX7_fitsAll_7 : decode cX7_fitsAll 7 = .ok (.getfield 100, 3) := by decide +kernel
theorem dX7_fitsAll_10 : decode cX7_fitsAll 10 = .ok (.if_icmp .ge 91, 3) := by decide +kernel
theorem dX7_fitsAll_13 : decode cX7_fitsAll 13 = .ok (.aload_n 0, 1) := by decide +kernel
theorem dX7_fitsAll_14 : decode cX7_fitsAll 14 = .ok (.getfield 46, 3) := by decide +kernel
theorem dX7_fitsAll_17 : decode cX7_fitsAll 17 = .ok (.getfield 316, 3) := by decide +kernel
theorem dX7_fitsAll_20 : decode cX7_fitsAll 20 = .ok (.iload_n 2, 1) := by decide +kernel
theorem dX7_fitsAll_21 : decode cX7_fitsAll 21 = .ok (.iaload, 1) := by decide +kernel
theorem dX7_fitsAll_22 : decode cX7_fitsAll 22 = .ok (.istore_n 3, 1) := by decide +kernel
theorem dX7_fitsAll_23 : decode cX7_fitsAll 23 = .ok (.aload_n 0, 1) := by decide +kernel
theorem dX7_fitsAll_24 : decode cX7_fitsAll 24 = .ok (.getfield 30, 3) := by decide +kernel
theorem dX7_fitsAll_27 : decode cX7_fitsAll 27 = .ok (.iload_n 3, 1) := by decide +kernel
theorem dX7_fitsAll_28 : decode cX7_fitsAll 28 = .ok (.invokevirtual 132, 3) := by decide +kernel
theorem dX7_fitsAll_31 : decode cX7_fitsAll 31 = .ok (.ifCond .eq 15, 3) := by decide +kernel
theorem dX7_fitsAll_34 : decode cX7_fitsAll 34 = .ok (.aload_n 0, 1) := by decide +kernel
theorem dX7_fitsAll_35 : decode cX7_fitsAll 35 = .ok (.getfield 30, 3) := by decide +kernel
theorem dX7_fitsAll_38 : decode cX7_fitsAll 38 = .ok (.getfield 116, 3) := by decide +kernel
theorem dX7_fitsAll_41 : decode cX7_fitsAll 41 = .ok (.iload_n 3, 1) := by decide +kernel
theorem dX7_fitsAll_42 : decode cX7_fitsAll 42 = .ok (.iaload, 1) := by decide +kernel
theorem dX7_fitsAll_43 : decode cX7_fitsAll 43 = .ok (.goto 4, 3) := by decide +kernel
theorem dX7_fitsAll_46 : decode cX7_fitsAll 46 = .ok (.iconst 0, 1) := by decide +kernel
theorem dX7_fitsAll_47 : decode cX7_fitsAll 47 = .ok (.istore 4, 2) := by decide +kernel
theorem dX7_fitsAll_49 : decode cX7_fitsAll 49 = .ok (.aload_n 0, 1) := by decide +kernel
theorem dX7_fitsAll_50 : decode cX7_fitsAll 50 = .ok (.iload 4, 2) := by decide +kernel
theorem dX7_fitsAll_52 : decode cX7_fitsAll 52 = .ok (.iload_n 1, 1) := by decide +kernel
theorem dX7_fitsAll_53 : decode cX7_fitsAll 53 = .ok (.aload_n 0, 1) := by decide +kernel
theorem dX7_fitsAll_54 : decode cX7_fitsAll 54 = .ok (.getfield 46, 3) := by decide +kernel
theorem dX7_fitsAll_57 : decode cX7_fitsAll 57 = .ok (.getfield 319, 3) := by decide +kernel
theorem dX7_fitsAll_60 : decode cX7_fitsAll 60 = .ok (.iload_n 2, 1) := by decide +kernel
theorem dX7_fitsAll_61 : decode cX7_fitsAll 61 = .ok (.iaload, 1) := by decide +kernel
theorem dX7_fitsAll_62 : decode cX7_fitsAll 62 = .ok (.invokevirtual 303, 3) := by decide +kernel
theorem dX7_fitsAll_65 : decode cX7_fitsAll 65 = .ok (.istore 5, 2) := by decide +kernel
theorem dX7_fitsAll_67 : decode cX7_fitsAll 67 = .ok (.iload 5, 2) := by decide +kernel
theorem dX7_fitsAll_69 : decode cX7_fitsAll 69 = .ok (.aload_n 0, 1) := by decide +kernel
theorem dX7_fitsAll_70 : decode cX7_fitsAll 70 = .ok (.getfield 46, 3) := by decide +kernel
theorem dX7_fitsAll_73 : decode cX7_fitsAll 73 = .ok (.getfield 322, 3) := by decide +kernel
theorem dX7_fitsAll_76 : decode cX7_fitsAll 76 = .ok (.iload_n 2, 1) := by decide +kernel
theorem dX7_fitsAll_77 : decode cX7_fitsAll 77 = .ok (.iaload, 1) := by decide +kernel
theorem dX7_fitsAll_78 : decode cX7_fitsAll 78 = .ok (.ishr, 1) := by decide +kernel
theorem dX7_fitsAll_79 : decode cX7_fitsAll 79 = .ok (.iconst 1, 1) := by decide +kernel
theorem dX7_fitsAll_80 : decode cX7_fitsAll 80 = .ok (.iand, 1) := by decide +kernel
theorem dX7_fitsAll_81 : decode cX7_fitsAll 81 = .ok (.aload_n 0, 1) := by decide +kernel
theorem dX7_fitsAll_82 : decode cX7_fitsAll 82 = .ok (.getfield 46, 3) := by decide +kernel
theorem dX7_fitsAll_85 : decode cX7_fitsAll 85 = .ok (.getfield 325, 3) := by decide +kernel
theorem dX7_fitsAll_88 : decode cX7_fitsAll 88 = .ok (.iload_n 2, 1) := by decide +kernel
theorem dX7_fitsAll_89 : decode cX7_fitsAll 89 = .ok (.iaload, 1) := by decide +kernel
theorem dX7_fitsAll_90 : decode cX7_fitsAll 90 = .ok (.if_icmp .eq 5, 3) := by decide +kernel
theorem dX7_fitsAll_93 : decode cX7_fitsAll 93 = .ok (.iconst 0, 1) := by decide +kernel
theorem dX7_fitsAll_94 : decode cX7_fitsAll 94 = .ok (.ireturn, 1) := by decide +kernel
theorem dX7_fitsAll_95 : decode cX7_fitsAll 95 = .ok (.iinc 2 1, 3) := by decide +kernel
theorem dX7_fitsAll_98 : decode cX7_fitsAll 98 = .ok (.goto (-96), 3) := by decide +kernel
theorem dX7_fitsAll_101 : decode cX7_fitsAll 101 = .ok (.iconst 1, 1) := by decide +kernel
theorem dX7_fitsAll_102 : decode cX7_fitsAll 102 = .ok (.ireturn, 1) := by decide +kernel
set_option maxRecDepth 20000 in
theorem ggX7_greatestPart_X7_hasBit : GoodIn wsX7_greatestPart wsX7_hasBit := goodIn_r _ [8] (by decide +kernel) (by decide +kernel)
set_option maxRecDepth 20000 in
theorem gX7_greatestPart_X7_hasBit : GoodIn wsX7_greatestPart (va_wsS RX7 162 yX7_hasBit wsX7_hasBit) := goodIn_app (goodIn_of _ (by decide +kernel)) ggX7_greatestPart_X7_hasBit
set_option maxRecDepth 20000 in
theorem ggX7_greatestPart_X7_knownAfterAlone : GoodIn wsX7_greatestPart wsX7_knownAfterAlone := goodIn_r _ [12, 13, 14, 15, 16, 17, 18, 19, 20, 21, 22, 23, 24, 25, 26, 27, 28, 29, 30, 31, 32, 33, 34, 35, 36, 37, 38, 39, 40, 41, 42, 43, 44, 45, 46, 47, 48, 49, 50, 51, 52, 53, 54, 55, 56, 57, 58, 59, 60, 61, 62, 63, 64, 65, 66, 67, 68, 69, 70, 71, 72, 73, 74, 76, 77, 78, 79, 80, 81, 82, 83, 84, 85, 86, 87, 88, 89, 90, 91, 92, 93, 94, 95, 96, 97, 98, 99, 100] (by decide +kernel) (by decide +kernel)
set_option maxRecDepth 20000 in
theorem gX7_greatestPart_X7_knownAfterAlone : GoodIn wsX7_greatestPart (wsV RX7 303 RX7 yX7_knownAfterAlone wsX7_knownAfterAlone) := goodIn_app (goodIn_of _ (by decide +kernel)) ggX7_greatestPart_X7_knownAfterAlone
set_option maxRecDepth 20000 in
theorem ggX7_greatestPart_J6_bitCount_0f7a4 : GoodIn wsX7_greatestPart wsJ6_bitCount_0f7a4 := goodIn_r _ [61, 62, 63, 64] (by decide +kernel) (by decide +kernel)
set_option maxRecDepth 20000 in
theorem gX7_greatestPart_J6_bitCount_0f7a4 : GoodIn wsX7_greatestPart (va_wsS RX7 182 yJ6_bitCount_0f7a4 wsJ6_bitCount_0f7a4) := goodIn_app (goodIn_of _ (by decide +kernel)) ggX7_greatestPart_J6_bitCount_0f7a4
theorem dX7_greatestPart_0 : decode cX7_greatestPart 0 = .ok (.iconst 0, 1) := by decide +kernel
theorem dX7_greatestPart_1 : decode cX7_greatestPart 1 = .ok (.istore 5, 2) := by decide +kernel
theorem dX7_greatestPart_3 : decode cX7_greatestPart 3 = .ok (.iconst 0, 1) := by decide +kernel
theorem dX7_greatestPart_4 : decode cX7_greatestPart 4 = .ok (.istore 6, 2) := by decide +kernel
theorem dX7_greatestPart_6 : decode cX7_greatestPart 6 = .ok (.iload 6, 2) := by decide +kernel
theorem dX7_greatestPart_8 : decode cX7_greatestPart 8 = .ok (.iconst 5, 1) := by decide +kernel
theorem dX7_greatestPart_9 : decode cX7_greatestPart 9 = .ok (.if_icmp .ge 37, 3) := by decide +kernel
theorem dX7_greatestPart_12 : decode cX7_greatestPart 12 = .ok (.iload 4, 2) := by decide +kernel
theorem dX7_greatestPart_14 : decode cX7_greatestPart 14 = .ok (.iload 6, 2) := by decide +kernel
theorem dX7_greatestPart_16 : decode cX7_greatestPart 16 = .ok (.invokestatic 162, 3) := by decide +kernel
theorem dX7_greatestPart_19 : decode cX7_greatestPart 19 = .ok (.ifCond .eq 21, 3) := by decide +kernel
theorem dX7_greatestPart_22 : decode cX7_greatestPart 22 = .ok (.aload_n 0, 1) := by decide +kernel
theorem dX7_greatestPart_23 : decode cX7_greatestPart 23 = .ok (.iload_n 1, 1) := by decide +kernel
theorem dX7_greatestPart_24 : decode cX7_greatestPart 24 = .ok (.iload 6, 2) := by decide +kernel
theorem dX7_greatestPart_26 : decode cX7_greatestPart 26 = .ok (.iload_n 2, 1) := by decide +kernel
theorem dX7_greatestPart_27 : decode cX7_greatestPart 27 = .ok (.invokevirtual 303, 3) := by decide +kernel
theorem dX7_greatestPart_30 : decode cX7_greatestPart 30 = .ok (.iload_n 3, 1) := by decide +kernel
theorem dX7_greatestPart_31 : decode cX7_greatestPart 31 = .ok (.invokestatic 162, 3) := by decide +kernel
theorem dX7_greatestPart_34 : decode cX7_greatestPart 34 = .ok (.ifCond .eq 6, 3) := by decide +kernel
theorem dX7_greatestPart_37 : decode cX7_greatestPart 37 = .ok (.iinc 5 1, 3) := by decide +kernel
theorem dX7_greatestPart_40 : decode cX7_greatestPart 40 = .ok (.iinc 6 1, 3) := by decide +kernel
theorem dX7_greatestPart_43 : decode cX7_greatestPart 43 = .ok (.goto (-37), 3) := by decide +kernel
theorem dX7_greatestPart_46 : decode cX7_greatestPart 46 = .ok (.iload 5, 2) := by decide +kernel
theorem dX7_greatestPart_48 : decode cX7_greatestPart 48 = .ok (.iload 4, 2) := by decide +kernel
theorem dX7_greatestPart_50 : decode cX7_greatestPart 50 = .ok (.invokestatic 182, 3) := by decide +kernel
theorem dX7_greatestPart_53 : decode cX7_greatestPart 53 = .ok (.iload 5, 2) := by decide +kernel
theorem dX7_greatestPart_55 : decode cX7_greatestPart 55 = .ok (.isub, 1) := by decide +kernel
theorem dX7_greatestPart_56 : decode cX7_greatestPart 56 = .ok (.invokestatic 328, 3) := by decide +kernel
theorem dX7_greatestPart_59 : decode cX7_greatestPart 59 = .ok (.ireturn, 1) := by decide +kernel
theorem dX7_isSlate_0 : decode cX7_isSlate 0 = .ok (.iload_n 0, 1) := by decide +kernel
theorem dX7_isSlate_1 : decode cX7_isSlate 1 = .ok (.ifCond .lt 12, 3) := by decide +kernel
theorem dX7_isSlate_4 : decode cX7_isSlate 4 = .ok (.iload_n 0, 1) := by decide +kernel
theorem dX7_isSlate_5 : decode cX7_isSlate 5 = .ok (.iconst 4, 1) := by decide +kernel
theorem dX7_isSlate_6 : decode cX7_isSlate 6 = .ok (.if_icmp .ge 7, 3) := by decide +kernel
theorem dX7_isSlate_9 : decode cX7_isSlate 9 = .ok (.iconst 1, 1) := by decide +kernel
theorem dX7_isSlate_10 : decode cX7_isSlate 10 = .ok (.goto 4, 3) := by decide +kernel
theorem dX7_isSlate_13 : decode cX7_isSlate 13 = .ok (.iconst 0, 1) := by decide +kernel
theorem dX7_isSlate_14 : decode cX7_isSlate 14 = .ok (.ireturn, 1) := by decide +kernel
theorem dX7_isSort_0 : decode cX7_isSort 0 = .ok (.iload_n 0, 1) := by decide +kernel
theorem dX7_isSort_1 : decode cX7_isSort 1 = .ok (.ifCond .lt 12, 3) := by decide +kernel
theorem dX7_isSort_4 : decode cX7_isSort 4 = .ok (.iload_n 0, 1) := by decide +kernel
theorem dX7_isSort_5 : decode cX7_isSort 5 = .ok (.iconst 3, 1) := by decide +kernel
theorem dX7_isSort_6 : decode cX7_isSort 6 = .ok (.if_icmp .ge 7, 3) := by decide +kernel
theorem dX7_isSort_9 : decode cX7_isSort 9 = .ok (.iconst 1, 1) := by decide +kernel
theorem dX7_isSort_10 : decode cX7_isSort 10 = .ok (.goto 4, 3) := by decide +kernel
theorem dX7_isSort_13 : decode cX7_isSort 13 = .ok (.iconst 0, 1) := by decide +kernel
theorem dX7_isSort_14 : decode cX7_isSort 14 = .ok (.ireturn, 1) := by decide +kernel
theorem dX7_isPart_0 : decode cX7_isPart 0 = .ok (.lload_n 0, 1) := by decide +kernel
theorem dX7_isPart_1 : decode cX7_isPart 1 = .ok (.ldc2_w 333, 3) := by decide +kernel
theorem dX7_isPart_4 : decode cX7_isPart 4 = .ok (.lcmp, 1) := by decide +kernel
theorem dX7_isPart_5 : decode cX7_isPart 5 = .ok (.ifCond .lt 29, 3) := by decide +kernel
theorem dX7_isPart_8 : decode cX7_isPart 8 = .ok (.lload_n 0, 1) := by decide +kernel
theorem dX7_isPart_9 : decode cX7_isPart 9 = .ok (.ldc2_w 335, 3) := by decide +kernel
theorem dX7_isPart_12 : decode cX7_isPart 12 = .ok (.lcmp, 1) := by decide +kernel
theorem dX7_isPart_13 : decode cX7_isPart 13 = .ok (.ifCond .gt 21, 3) := by decide +kernel
theorem dX7_isPart_16 : decode cX7_isPart 16 = .ok (.lload_n 2, 1) := by decide +kernel
theorem dX7_isPart_17 : decode cX7_isPart 17 = .ok (.lconst 1, 1) := by decide +kernel
theorem dX7_isPart_18 : decode cX7_isPart 18 = .ok (.lcmp, 1) := by decide +kernel
theorem dX7_isPart_19 : decode cX7_isPart 19 = .ok (.ifCond .lt 15, 3) := by decide +kernel
theorem dX7_isPart_22 : decode cX7_isPart 22 = .ok (.lload_n 2, 1) := by decide +kernel
theorem dX7_isPart_23 : decode cX7_isPart 23 = .ok (.ldc2_w 335, 3) := by decide +kernel
theorem dX7_isPart_26 : decode cX7_isPart 26 = .ok (.lcmp, 1) := by decide +kernel
theorem dX7_isPart_27 : decode cX7_isPart 27 = .ok (.ifCond .gt 7, 3) := by decide +kernel
theorem dX7_isPart_30 : decode cX7_isPart 30 = .ok (.iconst 1, 1) := by decide +kernel
theorem dX7_isPart_31 : decode cX7_isPart 31 = .ok (.goto 4, 3) := by decide +kernel
theorem dX7_isPart_34 : decode cX7_isPart 34 = .ok (.iconst 0, 1) := by decide +kernel
theorem dX7_isPart_35 : decode cX7_isPart 35 = .ok (.ireturn, 1) := by decide +kernel
set_option maxRecDepth 20000 in
theorem ggX7_setReckoned_X1_setLowest : GoodIn wsX7_setReckoned wsX1_setLowest := goodIn_r _ [8, 9, 10, 11, 12, 13, 14, 15, 16, 7, 17, 35, 36] (by decide +kernel) (by decide +kernel)
set_option maxRecDepth 20000 in
theorem gX7_setReckoned_X1_setLowest : GoodIn wsX7_setReckoned (wsV RX7 220 RX1 yX1_setLowest wsX1_setLowest) := goodIn_app (goodIn_of _ (by decide +kernel)) ggX7_setReckoned_X1_setLowest
theorem dX7_setReckoned_0 : decode cX7_setReckoned 0 = .ok (.aload_n 1, 1) := by decide +kernel
theorem dX7_setReckoned_1 : decode cX7_setReckoned 1 = .ok (.getfield 337, 3) := by decide +kernel
theorem dX7_setReckoned_4 : decode cX7_setReckoned 4 = .ok (.iload_n 2, 1) := by decide +kernel
theorem dX7_setReckoned_5 : decode cX7_setReckoned 5 = .ok (.laload, 1) := by decide +kernel
theorem dX7_setReckoned_6 : decode cX7_setReckoned 6 = .ok (.lstore 5, 2) := by decide +kernel
theorem dX7_setReckoned_8 : decode cX7_setReckoned 8 = .ok (.aload_n 1, 1) := by decide +kernel
theorem dX7_setReckoned_9 : decode cX7_setReckoned 9 = .ok (.getfield 341, 3) := by decide +kernel
theorem dX7_setReckoned_12 : decode cX7_setReckoned 12 = .ok (.iload_n 2, 1) := by decide +kernel
theorem dX7_setReckoned_13 : decode cX7_setReckoned 13 = .ok (.laload, 1) := by decide +kernel
theorem dX7_setReckoned_14 : decode cX7_setReckoned 14 = .ok (.lstore 7, 2) := by decide +kernel
theorem dX7_setReckoned_16 : decode cX7_setReckoned 16 = .ok (.aload_n 1, 1) := by decide +kernel
theorem dX7_setReckoned_17 : decode cX7_setReckoned 17 = .ok (.getfield 337, 3) := by decide +kernel
theorem dX7_setReckoned_20 : decode cX7_setReckoned 20 = .ok (.iload_n 3, 1) := by decide +kernel
theorem dX7_setReckoned_21 : decode cX7_setReckoned 21 = .ok (.laload, 1) := by decide +kernel
theorem dX7_setReckoned_22 : decode cX7_setReckoned 22 = .ok (.lstore 9, 2) := by decide +kernel
theorem dX7_setReckoned_24 : decode cX7_setReckoned 24 = .ok (.aload_n 1, 1) := by decide +kernel
theorem dX7_setReckoned_25 : decode cX7_setReckoned 25 = .ok (.getfield 341, 3) := by decide +kernel
theorem dX7_setReckoned_28 : decode cX7_setReckoned 28 = .ok (.iload_n 3, 1) := by decide +kernel
theorem dX7_setReckoned_29 : decode cX7_setReckoned 29 = .ok (.laload, 1) := by decide +kernel
theorem dX7_setReckoned_30 : decode cX7_setReckoned 30 = .ok (.lstore 11, 2) := by decide +kernel
theorem dX7_setReckoned_32 : decode cX7_setReckoned 32 = .ok (.iload 4, 2) := by decide +kernel
theorem dX7_setReckoned_34 : decode cX7_setReckoned 34 = .ok (.ifCond .ne 29, 3) := by decide +kernel
theorem dX7_setReckoned_37 : decode cX7_setReckoned 37 = .ok (.aload_n 0, 1) := by decide +kernel
theorem dX7_setReckoned_38 : decode cX7_setReckoned 38 = .ok (.getfield 66, 3) := by decide +kernel
theorem dX7_setReckoned_41 : decode cX7_setReckoned 41 = .ok (.lload 5, 2) := by decide +kernel
theorem dX7_setReckoned_43 : decode cX7_setReckoned 43 = .ok (.lload 11, 2) := by decide +kernel
theorem dX7_setReckoned_45 : decode cX7_setReckoned 45 = .ok (.lmul, 1) := by decide +kernel
theorem dX7_setReckoned_46 : decode cX7_setReckoned 46 = .ok (.lload 9, 2) := by decide +kernel
theorem dX7_setReckoned_48 : decode cX7_setReckoned 48 = .ok (.lload 7, 2) := by decide +kernel
theorem dX7_setReckoned_50 : decode cX7_setReckoned 50 = .ok (.lmul, 1) := by decide +kernel
theorem dX7_setReckoned_51 : decode cX7_setReckoned 51 = .ok (.ladd, 1) := by decide +kernel
theorem dX7_setReckoned_52 : decode cX7_setReckoned 52 = .ok (.lload 7, 2) := by decide +kernel
theorem dX7_setReckoned_54 : decode cX7_setReckoned 54 = .ok (.lload 11, 2) := by decide +kernel
theorem dX7_setReckoned_56 : decode cX7_setReckoned 56 = .ok (.lmul, 1) := by decide +kernel
theorem dX7_setReckoned_57 : decode cX7_setReckoned 57 = .ok (.invokevirtual 220, 3) := by decide +kernel
theorem dX7_setReckoned_60 : decode cX7_setReckoned 60 = .ok (.goto 52, 3) := by decide +kernel
theorem dX7_setReckoned_63 : decode cX7_setReckoned 63 = .ok (.iload 4, 2) := by decide +kernel
theorem dX7_setReckoned_65 : decode cX7_setReckoned 65 = .ok (.iconst 1, 1) := by decide +kernel
theorem dX7_setReckoned_66 : decode cX7_setReckoned 66 = .ok (.if_icmp .ne 29, 3) := by decide +kernel
theorem dX7_setReckoned_69 : decode cX7_setReckoned 69 = .ok (.aload_n 0, 1) := by decide +kernel
theorem dX7_setReckoned_70 : decode cX7_setReckoned 70 = .ok (.getfield 66, 3) := by decide +kernel
theorem dX7_setReckoned_73 : decode cX7_setReckoned 73 = .ok (.lload 5, 2) := by decide +kernel
theorem dX7_setReckoned_75 : decode cX7_setReckoned 75 = .ok (.lload 11, 2) := by decide +kernel
theorem dX7_setReckoned_77 : decode cX7_setReckoned 77 = .ok (.lmul, 1) := by decide +kernel
theorem dX7_setReckoned_78 : decode cX7_setReckoned 78 = .ok (.lload 9, 2) := by decide +kernel
theorem dX7_setReckoned_80 : decode cX7_setReckoned 80 = .ok (.lload 7, 2) := by decide +kernel
theorem dX7_setReckoned_82 : decode cX7_setReckoned 82 = .ok (.lmul, 1) := by decide +kernel
theorem dX7_setReckoned_83 : decode cX7_setReckoned 83 = .ok (.lsub, 1) := by decide +kernel
theorem dX7_setReckoned_84 : decode cX7_setReckoned 84 = .ok (.lload 7, 2) := by decide +kernel
theorem dX7_setReckoned_86 : decode cX7_setReckoned 86 = .ok (.lload 11, 2) := by decide +kernel
theorem dX7_setReckoned_88 : decode cX7_setReckoned 88 = .ok (.lmul, 1) := by decide +kernel
theorem dX7_setReckoned_89 : decode cX7_setReckoned 89 = .ok (.invokevirtual 220, 3) := by decide +kernel
theorem dX7_setReckoned_92 : decode cX7_setReckoned 92 = .ok (.goto 20, 3) := by decide +kernel
theorem dX7_setReckoned_95 : decode cX7_setReckoned 95 = .ok (.aload_n 0, 1) := by decide +kernel
theorem dX7_setReckoned_96 : decode cX7_setReckoned 96 = .ok (.getfield 66, 3) := by decide +kernel
theorem dX7_setReckoned_99 : decode cX7_setReckoned 99 = .ok (.lload 5, 2) := by decide +kernel
theorem dX7_setReckoned_101 : decode cX7_setReckoned 101 = .ok (.lload 9, 2) := by decide +kernel
theorem dX7_setReckoned_103 : decode cX7_setReckoned 103 = .ok (.lmul, 1) := by decide +kernel
theorem dX7_setReckoned_104 : decode cX7_setReckoned 104 = .ok (.lload 7, 2) := by decide +kernel
theorem dX7_setReckoned_106 : decode cX7_setReckoned 106 = .ok (.lload 11, 2) := by decide +kernel
theorem dX7_setReckoned_108 : decode cX7_setReckoned 108 = .ok (.lmul, 1) := by decide +kernel
theorem dX7_setReckoned_109 : decode cX7_setReckoned 109 = .ok (.invokevirtual 220, 3) := by decide +kernel
theorem dX7_setReckoned_112 : decode cX7_setReckoned 112 = .ok (.return_, 1) := by decide +kernel
set_option maxRecDepth 20000 in
theorem ggX7_slatesThere_X5_isMissing : GoodIn wsX7_slatesThere wsX5_isMissing := goodIn_r _ [6, 7, 21, 22, 23, 24] (by decide +kernel) (by decide +kernel)
set_option maxRecDepth 20000 in
theorem gX7_slatesThere_X5_isMissing : GoodIn wsX7_slatesThere (wsV RX7 273 RX5 yX5_isMissing wsX5_isMissing) := goodIn_app (goodIn_of _ (by decide +kernel)) ggX7_slatesThere_X5_isMissing
theorem dX7_slatesThere_0 : decode cX7_slatesThere 0 = .ok (.iconst 0, 1) := by decide +kernel
theorem dX7_slatesThere_1 : decode cX7_slatesThere 1 = .ok (.istore_n 1, 1) := by decide +kernel
theorem dX7_slatesThere_2 : decode cX7_slatesThere 2 = .ok (.iconst 0, 1) := by decide +kernel
theorem dX7_slatesThere_3 : decode cX7_slatesThere 3 = .ok (.istore_n 2, 1) := by decide +kernel
theorem dX7_slatesThere_4 : decode cX7_slatesThere 4 = .ok (.iload_n 2, 1) := by decide +kernel
theorem dX7_slatesThere_5 : decode cX7_slatesThere 5 = .ok (.iconst 4, 1) := by decide +kernel
theorem dX7_slatesThere_6 : decode cX7_slatesThere 6 = .ok (.if_icmp .ge 24, 3) := by decide +kernel
theorem dX7_slatesThere_9 : decode cX7_slatesThere 9 = .ok (.aload_n 0, 1) := by decide +kernel
theorem dX7_slatesThere_10 : decode cX7_slatesThere 10 = .ok (.getfield 59, 3) := by decide +kernel
theorem dX7_slatesThere_13 : decode cX7_slatesThere 13 = .ok (.iload_n 2, 1) := by decide +kernel
theorem dX7_slatesThere_14 : decode cX7_slatesThere 14 = .ok (.aaload, 1) := by decide +kernel
theorem dX7_slatesThere_15 : decode cX7_slatesThere 15 = .ok (.invokevirtual 273, 3) := by decide +kernel
theorem dX7_slatesThere_18 : decode cX7_slatesThere 18 = .ok (.ifCond .ne 6, 3) := by decide +kernel
theorem dX7_slatesThere_21 : decode cX7_slatesThere 21 = .ok (.iinc 1 1, 3) := by decide +kernel
theorem dX7_slatesThere_24 : decode cX7_slatesThere 24 = .ok (.iinc 2 1, 3) := by decide +kernel
theorem dX7_slatesThere_27 : decode cX7_slatesThere 27 = .ok (.goto (-23), 3) := by decide +kernel
theorem dX7_slatesThere_30 : decode cX7_slatesThere 30 = .ok (.iload_n 1, 1) := by decide +kernel
theorem dX7_slatesThere_31 : decode cX7_slatesThere 31 = .ok (.ireturn, 1) := by decide +kernel
theorem dX8_init_0 : decode cX8_init 0 = .ok (.aload_n 0, 1) := by decide +kernel
theorem dX8_init_1 : decode cX8_init 1 = .ok (.invokespecial 1, 3) := by decide +kernel
theorem dX8_init_4 : decode cX8_init 4 = .ok (.aload_n 0, 1) := by decide +kernel
theorem dX8_init_5 : decode cX8_init 5 = .ok (.sipush 624, 3) := by decide +kernel
theorem dX8_init_8 : decode cX8_init 8 = .ok (.newarray .int, 2) := by decide +kernel
theorem dX8_init_10 : decode cX8_init 10 = .ok (.putfield 7, 3) := by decide +kernel
theorem dX8_init_13 : decode cX8_init 13 = .ok (.aload_n 0, 1) := by decide +kernel
theorem dX8_init_14 : decode cX8_init 14 = .ok (.iconst 2, 1) := by decide +kernel
theorem dX8_init_15 : decode cX8_init 15 = .ok (.newarray .boolean, 2) := by decide +kernel
theorem dX8_init_17 : decode cX8_init 17 = .ok (.putfield 13, 3) := by decide +kernel
theorem dX8_init_20 : decode cX8_init 20 = .ok (.aload_n 0, 1) := by decide +kernel
theorem dX8_init_21 : decode cX8_init 21 = .ok (.sipush 200, 3) := by decide +kernel
theorem dX8_init_24 : decode cX8_init 24 = .ok (.newarray .int, 2) := by decide +kernel
theorem dX8_init_26 : decode cX8_init 26 = .ok (.putfield 17, 3) := by decide +kernel
theorem dX8_init_29 : decode cX8_init 29 = .ok (.aload_n 0, 1) := by decide +kernel
theorem dX8_init_30 : decode cX8_init 30 = .ok (.bipush 6, 2) := by decide +kernel
theorem dX8_init_32 : decode cX8_init 32 = .ok (.newarray .int, 2) := by decide +kernel
theorem dX8_init_34 : decode cX8_init 34 = .ok (.putfield 20, 3) := by decide +kernel
theorem dX8_init_37 : decode cX8_init 37 = .ok (.aload_n 0, 1) := by decide +kernel
theorem dX8_init_38 : decode cX8_init 38 = .ok (.bipush 6, 2) := by decide +kernel
theorem dX8_init_40 : decode cX8_init 40 = .ok (.newarray .int, 2) := by decide +kernel
theorem dX8_init_42 : decode cX8_init 42 = .ok (.putfield 23, 3) := by decide +kernel
theorem dX8_init_45 : decode cX8_init 45 = .ok (.aload_n 0, 1) := by decide +kernel
theorem dX8_init_46 : decode cX8_init 46 = .ok (.bipush 6, 2) := by decide +kernel
theorem dX8_init_48 : decode cX8_init 48 = .ok (.newarray .int, 2) := by decide +kernel
theorem dX8_init_50 : decode cX8_init 50 = .ok (.putfield 26, 3) := by decide +kernel
theorem dX8_init_53 : decode cX8_init 53 = .ok (.aload_n 0, 1) := by decide +kernel
theorem dX8_init_54 : decode cX8_init 54 = .ok (.bipush 6, 2) := by decide +kernel
theorem dX8_init_56 : decode cX8_init 56 = .ok (.newarray .int, 2) := by decide +kernel
theorem dX8_init_58 : decode cX8_init 58 = .ok (.putfield 29, 3) := by decide +kernel
theorem dX8_init_61 : decode cX8_init 61 = .ok (.aload_n 0, 1) := by decide +kernel
theorem dX8_init_62 : decode cX8_init 62 = .ok (.iconst 4, 1) := by decide +kernel
theorem dX8_init_63 : decode cX8_init 63 = .ok (.newarray .int, 2) := by decide +kernel
theorem dX8_init_65 : decode cX8_init 65 = .ok (.dup, 1) := by decide +kernel
theorem dX8_init_66 : decode cX8_init 66 = .ok (.iconst 0, 1) := by decide +kernel
theorem dX8_init_67 : decode cX8_init 67 = .ok (.iconst (-1), 1) := by decide +kernel
theorem dX8_init_68 : decode cX8_init 68 = .ok (.iastore, 1) := by decide +kernel
theorem dX8_init_69 : decode cX8_init 69 = .ok (.dup, 1) := by decide +kernel
theorem dX8_init_70 : decode cX8_init 70 = .ok (.iconst 1, 1) := by decide +kernel
theorem dX8_init_71 : decode cX8_init 71 = .ok (.iconst (-1), 1) := by decide +kernel
theorem dX8_init_72 : decode cX8_init 72 = .ok (.iastore, 1) := by decide +kernel
theorem dX8_init_73 : decode cX8_init 73 = .ok (.dup, 1) := by decide +kernel
theorem dX8_init_74 : decode cX8_init 74 = .ok (.iconst 2, 1) := by decide +kernel
theorem dX8_init_75 : decode cX8_init 75 = .ok (.iconst (-1), 1) := by decide +kernel
theorem dX8_init_76 : decode cX8_init 76 = .ok (.iastore, 1) := by decide +kernel
theorem dX8_init_77 : decode cX8_init 77 = .ok (.dup, 1) := by decide +kernel
theorem dX8_init_78 : decode cX8_init 78 = .ok (.iconst 3, 1) := by decide +kernel
theorem dX8_init_79 : decode cX8_init 79 = .ok (.iconst (-1), 1) := by decide +kernel
theorem dX8_init_80 : decode cX8_init 80 = .ok (.iastore, 1) := by decide +kernel
theorem dX8_init_81 : decode cX8_init 81 = .ok (.putfield 32, 3) := by decide +kernel
theorem dX8_init_84 : decode cX8_init 84 = .ok (.aload_n 0, 1) := by decide +kernel
theorem dX8_init_85 : decode cX8_init 85 = .ok (.iconst 4, 1) := by decide +kernel
theorem dX8_init_86 : decode cX8_init 86 = .ok (.newarray .int, 2) := by decide +kernel
theorem dX8_init_88 : decode cX8_init 88 = .ok (.putfield 35, 3) := by decide +kernel
theorem dX8_init_91 : decode cX8_init 91 = .ok (.aload_n 0, 1) := by decide +kernel
theorem dX8_init_92 : decode cX8_init 92 = .ok (.bipush 40, 2) := by decide +kernel
theorem dX8_init_94 : decode cX8_init 94 = .ok (.newarray .long, 2) := by decide +kernel
theorem dX8_init_96 : decode cX8_init 96 = .ok (.putfield 38, 3) := by decide +kernel
theorem dX8_init_99 : decode cX8_init 99 = .ok (.aload_n 0, 1) := by decide +kernel
theorem dX8_init_100 : decode cX8_init 100 = .ok (.bipush 40, 2) := by decide +kernel
theorem dX8_init_102 : decode cX8_init 102 = .ok (.newarray .int, 2) := by decide +kernel
theorem dX8_init_104 : decode cX8_init 104 = .ok (.putfield 42, 3) := by decide +kernel
theorem dX8_init_107 : decode cX8_init 107 = .ok (.aload_n 0, 1) := by decide +kernel
theorem dX8_init_108 : decode cX8_init 108 = .ok (.iconst 4, 1) := by decide +kernel
theorem dX8_init_109 : decode cX8_init 109 = .ok (.newarray .int, 2) := by decide +kernel
theorem dX8_init_111 : decode cX8_init 111 = .ok (.dup, 1) := by decide +kernel
theorem dX8_init_112 : decode cX8_init 112 = .ok (.iconst 0, 1) := by decide +kernel
theorem dX8_init_113 : decode cX8_init 113 = .ok (.bipush 99, 2) := by decide +kernel
theorem dX8_init_115 : decode cX8_init 115 = .ok (.iastore, 1) := by decide +kernel
theorem dX8_init_116 : decode cX8_init 116 = .ok (.dup, 1) := by decide +kernel
theorem dX8_init_117 : decode cX8_init 117 = .ok (.iconst 1, 1) := by decide +kernel
theorem dX8_init_118 : decode cX8_init 118 = .ok (.bipush 108, 2) := by decide +kernel
theorem dX8_init_120 : decode cX8_init 120 = .ok (.iastore, 1) := by decide +kernel
theorem dX8_init_121 : decode cX8_init 121 = .ok (.dup, 1) := by decide +kernel
theorem dX8_init_122 : decode cX8_init 122 = .ok (.iconst 2, 1) := by decide +kernel
theorem dX8_init_123 : decode cX8_init 123 = .ok (.bipush 117, 2) := by decide +kernel
theorem dX8_init_125 : decode cX8_init 125 = .ok (.iastore, 1) := by decide +kernel
theorem dX8_init_126 : decode cX8_init 126 = .ok (.dup, 1) := by decide +kernel
theorem dX8_init_127 : decode cX8_init 127 = .ok (.iconst 3, 1) := by decide +kernel
theorem dX8_init_128 : decode cX8_init 128 = .ok (.bipush 98, 2) := by decide +kernel
theorem dX8_init_130 : decode cX8_init 130 = .ok (.iastore, 1) := by decide +kernel
theorem dX8_init_131 : decode cX8_init 131 = .ok (.putfield 45, 3) := by decide +kernel
theorem dX8_init_134 : decode cX8_init 134 = .ok (.aload_n 0, 1) := by decide +kernel
theorem dX8_init_135 : decode cX8_init 135 = .ok (.iconst 4, 1) := by decide +kernel
theorem dX8_init_136 : decode cX8_init 136 = .ok (.newarray .int, 2) := by decide +kernel
theorem dX8_init_138 : decode cX8_init 138 = .ok (.dup, 1) := by decide +kernel
theorem dX8_init_139 : decode cX8_init 139 = .ok (.iconst 0, 1) := by decide +kernel
theorem dX8_init_140 : decode cX8_init 140 = .ok (.bipush 102, 2) := by decide +kernel
theorem dX8_init_142 : decode cX8_init 142 = .ok (.iastore, 1) := by decide +kernel
theorem dX8_init_143 : decode cX8_init 143 = .ok (.dup, 1) := by decide +kernel
theorem dX8_init_144 : decode cX8_init 144 = .ok (.iconst 1, 1) := by decide +kernel
theorem dX8_init_145 : decode cX8_init 145 = .ok (.bipush 97, 2) := by decide +kernel
theorem dX8_init_147 : decode cX8_init 147 = .ok (.iastore, 1) := by decide +kernel
theorem dX8_init_148 : decode cX8_init 148 = .ok (.dup, 1) := by decide +kernel
theorem dX8_init_149 : decode cX8_init 149 = .ok (.iconst 2, 1) := by decide +kernel
theorem dX8_init_150 : decode cX8_init 150 = .ok (.bipush 99, 2) := by decide +kernel
theorem dX8_init_152 : decode cX8_init 152 = .ok (.iastore, 1) := by decide +kernel
theorem dX8_init_153 : decode cX8_init 153 = .ok (.dup, 1) := by decide +kernel
theorem dX8_init_154 : decode cX8_init 154 = .ok (.iconst 3, 1) := by decide +kernel
theorem dX8_init_155 : decode cX8_init 155 = .ok (.bipush 116, 2) := by decide +kernel
theorem dX8_init_157 : decode cX8_init 157 = .ok (.iastore, 1) := by decide +kernel
theorem dX8_init_158 : decode cX8_init 158 = .ok (.putfield 48, 3) := by decide +kernel
theorem dX8_init_161 : decode cX8_init 161 = .ok (.aload_n 0, 1) := by decide +kernel
theorem dX8_init_162 : decode cX8_init 162 = .ok (.bipush 6, 2) := by decide +kernel
theorem dX8_init_164 : decode cX8_init 164 = .ok (.newarray .int, 2) := by decide +kernel
theorem dX8_init_166 : decode cX8_init 166 = .ok (.dup, 1) := by decide +kernel
theorem dX8_init_167 : decode cX8_init 167 = .ok (.iconst 0, 1) := by decide +kernel
theorem dX8_init_168 : decode cX8_init 168 = .ok (.bipush 109, 2) := by decide +kernel
theorem dX8_init_170 : decode cX8_init 170 = .ok (.iastore, 1) := by decide +kernel
theorem dX8_init_171 : decode cX8_init 171 = .ok (.dup, 1) := by decide +kernel
theorem dX8_init_172 : decode cX8_init 172 = .ok (.iconst 1, 1) := by decide +kernel
theorem dX8_init_173 : decode cX8_init 173 = .ok (.bipush 101, 2) := by decide +kernel
theorem dX8_init_175 : decode cX8_init 175 = .ok (.iastore, 1) := by decide +kernel
theorem dX8_init_176 : decode cX8_init 176 = .ok (.dup, 1) := by decide +kernel
theorem dX8_init_177 : decode cX8_init 177 = .ok (.iconst 2, 1) := by decide +kernel
theorem dX8_init_178 : decode cX8_init 178 = .ok (.bipush 109, 2) := by decide +kernel
theorem dX8_init_180 : decode cX8_init 180 = .ok (.iastore, 1) := by decide +kernel
theorem dX8_init_181 : decode cX8_init 181 = .ok (.dup, 1) := by decide +kernel
theorem dX8_init_182 : decode cX8_init 182 = .ok (.iconst 3, 1) := by decide +kernel
theorem dX8_init_183 : decode cX8_init 183 = .ok (.bipush 98, 2) := by decide +kernel
theorem dX8_init_185 : decode cX8_init 185 = .ok (.iastore, 1) := by decide +kernel
theorem dX8_init_186 : decode cX8_init 186 = .ok (.dup, 1) := by decide +kernel
theorem dX8_init_187 : decode cX8_init 187 = .ok (.iconst 4, 1) := by decide +kernel
theorem dX8_init_188 : decode cX8_init 188 = .ok (.bipush 101, 2) := by decide +kernel
theorem dX8_init_190 : decode cX8_init 190 = .ok (.iastore, 1) := by decide +kernel
theorem dX8_init_191 : decode cX8_init 191 = .ok (.dup, 1) := by decide +kernel
theorem dX8_init_192 : decode cX8_init 192 = .ok (.iconst 5, 1) := by decide +kernel
theorem dX8_init_193 : decode cX8_init 193 = .ok (.bipush 114, 2) := by decide +kernel
theorem dX8_init_195 : decode cX8_init 195 = .ok (.iastore, 1) := by decide +kernel
theorem dX8_init_196 : decode cX8_init 196 = .ok (.putfield 51, 3) := by decide +kernel
theorem dX8_init_199 : decode cX8_init 199 = .ok (.aload_n 0, 1) := by decide +kernel
theorem dX8_init_200 : decode cX8_init 200 = .ok (.bipush 6, 2) := by decide +kernel
theorem dX8_init_202 : decode cX8_init 202 = .ok (.newarray .int, 2) := by decide +kernel
theorem dX8_init_204 : decode cX8_init 204 = .ok (.dup, 1) := by decide +kernel
theorem dX8_init_205 : decode cX8_init 205 = .ok (.iconst 0, 1) := by decide +kernel
theorem dX8_init_206 : decode cX8_init 206 = .ok (.bipush 99, 2) := by decide +kernel
theorem dX8_init_208 : decode cX8_init 208 = .ok (.iastore, 1) := by decide +kernel
theorem dX8_init_209 : decode cX8_init 209 = .ok (.dup, 1) := by decide +kernel
theorem dX8_init_210 : decode cX8_init 210 = .ok (.iconst 1, 1) := by decide +kernel
theorem dX8_init_211 : decode cX8_init 211 = .ok (.bipush 111, 2) := by decide +kernel
theorem dX8_init_213 : decode cX8_init 213 = .ok (.iastore, 1) := by decide +kernel
theorem dX8_init_214 : decode cX8_init 214 = .ok (.dup, 1) := by decide +kernel
theorem dX8_init_215 : decode cX8_init 215 = .ok (.iconst 2, 1) := by decide +kernel
theorem dX8_init_216 : decode cX8_init 216 = .ok (.bipush 109, 2) := by decide +kernel
theorem dX8_init_218 : decode cX8_init 218 = .ok (.iastore, 1) := by decide +kernel
theorem dX8_init_219 : decode cX8_init 219 = .ok (.dup, 1) := by decide +kernel
theorem dX8_init_220 : decode cX8_init 220 = .ok (.iconst 3, 1) := by decide +kernel
theorem dX8_init_221 : decode cX8_init 221 = .ok (.bipush 109, 2) := by decide +kernel
theorem dX8_init_223 : decode cX8_init 223 = .ok (.iastore, 1) := by decide +kernel
theorem dX8_init_224 : decode cX8_init 224 = .ok (.dup, 1) := by decide +kernel
theorem dX8_init_225 : decode cX8_init 225 = .ok (.iconst 4, 1) := by decide +kernel
theorem dX8_init_226 : decode cX8_init 226 = .ok (.bipush 111, 2) := by decide +kernel
theorem dX8_init_228 : decode cX8_init 228 = .ok (.iastore, 1) := by decide +kernel
theorem dX8_init_229 : decode cX8_init 229 = .ok (.dup, 1) := by decide +kernel
theorem dX8_init_230 : decode cX8_init 230 = .ok (.iconst 5, 1) := by decide +kernel
theorem dX8_init_231 : decode cX8_init 231 = .ok (.bipush 110, 2) := by decide +kernel
theorem dX8_init_233 : decode cX8_init 233 = .ok (.iastore, 1) := by decide +kernel
theorem dX8_init_234 : decode cX8_init 234 = .ok (.putfield 54, 3) := by decide +kernel
theorem dX8_init_237 : decode cX8_init 237 = .ok (.aload_n 0, 1) := by decide +kernel
theorem dX8_init_238 : decode cX8_init 238 = .ok (.bipush 7, 2) := by decide +kernel
theorem dX8_init_240 : decode cX8_init 240 = .ok (.newarray .int, 2) := by decide +kernel
theorem dX8_init_242 : decode cX8_init 242 = .ok (.dup, 1) := by decide +kernel
theorem dX8_init_243 : decode cX8_init 243 = .ok (.iconst 0, 1) := by decide +kernel
theorem dX8_init_244 : decode cX8_init 244 = .ok (.bipush 115, 2) := by decide +kernel
theorem dX8_init_246 : decode cX8_init 246 = .ok (.iastore, 1) := by decide +kernel
theorem dX8_init_247 : decode cX8_init 247 = .ok (.dup, 1) := by decide +kernel
theorem dX8_init_248 : decode cX8_init 248 = .ok (.iconst 1, 1) := by decide +kernel
theorem dX8_init_249 : decode cX8_init 249 = .ok (.bipush 116, 2) := by decide +kernel
theorem dX8_init_251 : decode cX8_init 251 = .ok (.iastore, 1) := by decide +kernel
theorem dX8_init_252 : decode cX8_init 252 = .ok (.dup, 1) := by decide +kernel
theorem dX8_init_253 : decode cX8_init 253 = .ok (.iconst 2, 1) := by decide +kernel
theorem dX8_init_254 : decode cX8_init 254 = .ok (.bipush 114, 2) := by decide +kernel
theorem dX8_init_256 : decode cX8_init 256 = .ok (.iastore, 1) := by decide +kernel
theorem dX8_init_257 : decode cX8_init 257 = .ok (.dup, 1) := by decide +kernel
theorem dX8_init_258 : decode cX8_init 258 = .ok (.iconst 3, 1) := by decide +kernel
theorem dX8_init_259 : decode cX8_init 259 = .ok (.bipush 105, 2) := by decide +kernel
theorem dX8_init_261 : decode cX8_init 261 = .ok (.iastore, 1) := by decide +kernel
theorem dX8_init_262 : decode cX8_init 262 = .ok (.dup, 1) := by decide +kernel
theorem dX8_init_263 : decode cX8_init 263 = .ok (.iconst 4, 1) := by decide +kernel
theorem dX8_init_264 : decode cX8_init 264 = .ok (.bipush 112, 2) := by decide +kernel
theorem dX8_init_266 : decode cX8_init 266 = .ok (.iastore, 1) := by decide +kernel
theorem dX8_init_267 : decode cX8_init 267 = .ok (.dup, 1) := by decide +kernel
theorem dX8_init_268 : decode cX8_init 268 = .ok (.iconst 5, 1) := by decide +kernel
theorem dX8_init_269 : decode cX8_init 269 = .ok (.bipush 101, 2) := by decide +kernel
theorem dX8_init_271 : decode cX8_init 271 = .ok (.iastore, 1) := by decide +kernel
theorem dX8_init_272 : decode cX8_init 272 = .ok (.dup, 1) := by decide +kernel
theorem dX8_init_273 : decode cX8_init 273 = .ok (.bipush 6, 2) := by decide +kernel
theorem dX8_init_275 : decode cX8_init 275 = .ok (.bipush 100, 2) := by decide +kernel
theorem dX8_init_277 : decode cX8_init 277 = .ok (.iastore, 1) := by decide +kernel
theorem dX8_init_278 : decode cX8_init 278 = .ok (.putfield 57, 3) := by decide +kernel
theorem dX8_init_281 : decode cX8_init 281 = .ok (.aload_n 0, 1) := by decide +kernel
theorem dX8_init_282 : decode cX8_init 282 = .ok (.bipush 6, 2) := by decide +kernel
theorem dX8_init_284 : decode cX8_init 284 = .ok (.newarray .int, 2) := by decide +kernel
theorem dX8_init_286 : decode cX8_init 286 = .ok (.dup, 1) := by decide +kernel
theorem dX8_init_287 : decode cX8_init 287 = .ok (.iconst 0, 1) := by decide +kernel
theorem dX8_init_288 : decode cX8_init 288 = .ok (.bipush 103, 2) := by decide +kernel
theorem dX8_init_290 : decode cX8_init 290 = .ok (.iastore, 1) := by decide +kernel
theorem dX8_init_291 : decode cX8_init 291 = .ok (.dup, 1) := by decide +kernel
theorem dX8_init_292 : decode cX8_init 292 = .ok (.iconst 1, 1) := by decide +kernel
theorem dX8_init_293 : decode cX8_init 293 = .ok (.bipush 114, 2) := by decide +kernel
theorem dX8_init_295 : decode cX8_init 295 = .ok (.iastore, 1) := by decide +kernel
theorem dX8_init_296 : decode cX8_init 296 = .ok (.dup, 1) := by decide +kernel
theorem dX8_init_297 : decode cX8_init 297 = .ok (.iconst 2, 1) := by decide +kernel
theorem dX8_init_298 : decode cX8_init 298 = .ok (.bipush 101, 2) := by decide +kernel
theorem dX8_init_300 : decode cX8_init 300 = .ok (.iastore, 1) := by decide +kernel
theorem dX8_init_301 : decode cX8_init 301 = .ok (.dup, 1) := by decide +kernel
theorem dX8_init_302 : decode cX8_init 302 = .ok (.iconst 3, 1) := by decide +kernel
theorem dX8_init_303 : decode cX8_init 303 = .ok (.bipush 101, 2) := by decide +kernel
theorem dX8_init_305 : decode cX8_init 305 = .ok (.iastore, 1) := by decide +kernel
theorem dX8_init_306 : decode cX8_init 306 = .ok (.dup, 1) := by decide +kernel
theorem dX8_init_307 : decode cX8_init 307 = .ok (.iconst 4, 1) := by decide +kernel
theorem dX8_init_308 : decode cX8_init 308 = .ok (.bipush 100, 2) := by decide +kernel
theorem dX8_init_310 : decode cX8_init 310 = .ok (.iastore, 1) := by decide +kernel
theorem dX8_init_311 : decode cX8_init 311 = .ok (.dup, 1) := by decide +kernel
theorem dX8_init_312 : decode cX8_init 312 = .ok (.iconst 5, 1) := by decide +kernel
theorem dX8_init_313 : decode cX8_init 313 = .ok (.bipush 121, 2) := by decide +kernel
theorem dX8_init_315 : decode cX8_init 315 = .ok (.iastore, 1) := by decide +kernel
theorem dX8_init_316 : decode cX8_init 316 = .ok (.putfield 60, 3) := by decide +kernel
theorem dX8_init_319 : decode cX8_init 319 = .ok (.aload_n 0, 1) := by decide +kernel
theorem dX8_init_320 : decode cX8_init 320 = .ok (.bipush 6, 2) := by decide +kernel
theorem dX8_init_322 : decode cX8_init 322 = .ok (.newarray .int, 2) := by decide +kernel
theorem dX8_init_324 : decode cX8_init 324 = .ok (.dup, 1) := by decide +kernel
theorem dX8_init_325 : decode cX8_init 325 = .ok (.iconst 0, 1) := by decide +kernel
theorem dX8_init_326 : decode cX8_init 326 = .ok (.bipush 98, 2) := by decide +kernel
theorem dX8_init_328 : decode cX8_init 328 = .ok (.iastore, 1) := by decide +kernel
theorem dX8_init_329 : decode cX8_init 329 = .ok (.dup, 1) := by decide +kernel
theorem dX8_init_330 : decode cX8_init 330 = .ok (.iconst 1, 1) := by decide +kernel
theorem dX8_init_331 : decode cX8_init 331 = .ok (.bipush 105, 2) := by decide +kernel
theorem dX8_init_333 : decode cX8_init 333 = .ok (.iastore, 1) := by decide +kernel
theorem dX8_init_334 : decode cX8_init 334 = .ok (.dup, 1) := by decide +kernel
theorem dX8_init_335 : decode cX8_init 335 = .ok (.iconst 2, 1) := by decide +kernel
theorem dX8_init_336 : decode cX8_init 336 = .ok (.bipush 115, 2) := by decide +kernel
theorem dX8_init_338 : decode cX8_init 338 = .ok (.iastore, 1) := by decide +kernel
theorem dX8_init_339 : decode cX8_init 339 = .ok (.dup, 1) := by decide +kernel
theorem dX8_init_340 : decode cX8_init 340 = .ok (.iconst 3, 1) := by decide +kernel
theorem dX8_init_341 : decode cX8_init 341 = .ok (.bipush 104, 2) := by decide +kernel
theorem dX8_init_343 : decode cX8_init 343 = .ok (.iastore, 1) := by decide +kernel
theorem dX8_init_344 : decode cX8_init 344 = .ok (.dup, 1) := by decide +kernel
theorem dX8_init_345 : decode cX8_init 345 = .ok (.iconst 4, 1) := by decide +kernel
theorem dX8_init_346 : decode cX8_init 346 = .ok (.bipush 111, 2) := by decide +kernel
theorem dX8_init_348 : decode cX8_init 348 = .ok (.iastore, 1) := by decide +kernel
theorem dX8_init_349 : decode cX8_init 349 = .ok (.dup, 1) := by decide +kernel
theorem dX8_init_350 : decode cX8_init 350 = .ok (.iconst 5, 1) := by decide +kernel
theorem dX8_init_351 : decode cX8_init 351 = .ok (.bipush 112, 2) := by decide +kernel
theorem dX8_init_353 : decode cX8_init 353 = .ok (.iastore, 1) := by decide +kernel
theorem dX8_init_354 : decode cX8_init 354 = .ok (.putfield 63, 3) := by decide +kernel
theorem dX8_init_357 : decode cX8_init 357 = .ok (.aload_n 0, 1) := by decide +kernel
theorem dX8_init_358 : decode cX8_init 358 = .ok (.iconst 4, 1) := by decide +kernel
theorem dX8_init_359 : decode cX8_init 359 = .ok (.newarray .int, 2) := by decide +kernel
theorem dX8_init_361 : decode cX8_init 361 = .ok (.dup, 1) := by decide +kernel
theorem dX8_init_362 : decode cX8_init 362 = .ok (.iconst 0, 1) := by decide +kernel
theorem dX8_init_363 : decode cX8_init 363 = .ok (.bipush 109, 2) := by decide +kernel
theorem dX8_init_365 : decode cX8_init 365 = .ok (.iastore, 1) := by decide +kernel
theorem dX8_init_366 : decode cX8_init 366 = .ok (.dup, 1) := by decide +kernel
theorem dX8_init_367 : decode cX8_init 367 = .ok (.iconst 1, 1) := by decide +kernel
theorem dX8_init_368 : decode cX8_init 368 = .ok (.bipush 117, 2) := by decide +kernel
theorem dX8_init_370 : decode cX8_init 370 = .ok (.iastore, 1) := by decide +kernel
theorem dX8_init_371 : decode cX8_init 371 = .ok (.dup, 1) := by decide +kernel
theorem dX8_init_372 : decode cX8_init 372 = .ok (.iconst 2, 1) := by decide +kernel
theorem dX8_init_373 : decode cX8_init 373 = .ok (.bipush 102, 2) := by decide +kernel
theorem dX8_init_375 : decode cX8_init 375 = .ok (.iastore, 1) := by decide +kernel
theorem dX8_init_376 : decode cX8_init 376 = .ok (.dup, 1) := by decide +kernel
theorem dX8_init_377 : decode cX8_init 377 = .ok (.iconst 3, 1) := by decide +kernel
theorem dX8_init_378 : decode cX8_init 378 = .ok (.bipush 102, 2) := by decide +kernel
theorem dX8_init_380 : decode cX8_init 380 = .ok (.iastore, 1) := by decide +kernel
theorem dX8_init_381 : decode cX8_init 381 = .ok (.putfield 66, 3) := by decide +kernel
theorem dX8_init_384 : decode cX8_init 384 = .ok (.aload_n 0, 1) := by decide +kernel
theorem dX8_init_385 : decode cX8_init 385 = .ok (.iconst 2, 1) := by decide +kernel
theorem dX8_init_386 : decode cX8_init 386 = .ok (.newarray .int, 2) := by decide +kernel
theorem dX8_init_388 : decode cX8_init 388 = .ok (.dup, 1) := by decide +kernel
theorem dX8_init_389 : decode cX8_init 389 = .ok (.iconst 0, 1) := by decide +kernel
theorem dX8_init_390 : decode cX8_init 390 = .ok (.bipush 111, 2) := by decide +kernel
theorem dX8_init_392 : decode cX8_init 392 = .ok (.iastore, 1) := by decide +kernel
theorem dX8_init_393 : decode cX8_init 393 = .ok (.dup, 1) := by decide +kernel
theorem dX8_init_394 : decode cX8_init 394 = .ok (.iconst 1, 1) := by decide +kernel
theorem dX8_init_395 : decode cX8_init 395 = .ok (.bipush 110, 2) := by decide +kernel
theorem dX8_init_397 : decode cX8_init 397 = .ok (.iastore, 1) := by decide +kernel
theorem dX8_init_398 : decode cX8_init 398 = .ok (.putfield 69, 3) := by decide +kernel
theorem dX8_init_401 : decode cX8_init 401 = .ok (.aload_n 0, 1) := by decide +kernel
theorem dX8_init_402 : decode cX8_init 402 = .ok (.iconst 5, 1) := by decide +kernel
theorem dX8_init_403 : decode cX8_init 403 = .ok (.newarray .int, 2) := by decide +kernel
theorem dX8_init_405 : decode cX8_init 405 = .ok (.putfield 72, 3) := by decide +kernel
theorem dX8_init_408 : decode cX8_init 408 = .ok (.aload_n 0, 1) := by decide +kernel
theorem dX8_init_409 : decode cX8_init 409 = .ok (.iconst 5, 1) := by decide +kernel
theorem dX8_init_410 : decode cX8_init 410 = .ok (.newarray .int, 2) := by decide +kernel
theorem dX8_init_412 : decode cX8_init 412 = .ok (.putfield 75, 3) := by decide +kernel
theorem dX8_init_415 : decode cX8_init 415 = .ok (.aload_n 0, 1) := by decide +kernel
theorem dX8_init_416 : decode cX8_init 416 = .ok (.bipush 10, 2) := by decide +kernel
theorem dX8_init_418 : decode cX8_init 418 = .ok (.newarray .long, 2) := by decide +kernel
theorem dX8_init_420 : decode cX8_init 420 = .ok (.putfield 78, 3) := by decide +kernel
theorem dX8_init_423 : decode cX8_init 423 = .ok (.aload_n 0, 1) := by decide +kernel
theorem dX8_init_424 : decode cX8_init 424 = .ok (.bipush 10, 2) := by decide +kernel
theorem dX8_init_426 : decode cX8_init 426 = .ok (.newarray .int, 2) := by decide +kernel
theorem dX8_init_428 : decode cX8_init 428 = .ok (.putfield 81, 3) := by decide +kernel
theorem dX8_init_431 : decode cX8_init 431 = .ok (.return_, 1) := by decide +kernel
theorem dX8_in_0 : decode cX8_in 0 = .ok (.lload_n 0, 1) := by decide +kernel
theorem dX8_in_1 : decode cX8_in 1 = .ok (.lload_n 2, 1) := by decide +kernel
theorem dX8_in_2 : decode cX8_in 2 = .ok (.lcmp, 1) := by decide +kernel
theorem dX8_in_3 : decode cX8_in 3 = .ok (.ifCond .lt 14, 3) := by decide +kernel
theorem dX8_in_6 : decode cX8_in 6 = .ok (.lload_n 0, 1) := by decide +kernel
theorem dX8_in_7 : decode cX8_in 7 = .ok (.lload 4, 2) := by decide +kernel
theorem dX8_in_9 : decode cX8_in 9 = .ok (.lcmp, 1) := by decide +kernel
theorem dX8_in_10 : decode cX8_in 10 = .ok (.ifCond .gt 7, 3) := by decide +kernel
theorem dX8_in_13 : decode cX8_in 13 = .ok (.iconst 1, 1) := by decide +kernel
theorem dX8_in_14 : decode cX8_in 14 = .ok (.goto 4, 3) := by decide +kernel
theorem dX8_in_17 : decode cX8_in 17 = .ok (.iconst 0, 1) := by decide +kernel
theorem dX8_in_18 : decode cX8_in 18 = .ok (.ireturn, 1) := by decide +kernel
theorem dX8_has_0 : decode cX8_has 0 = .ok (.iload_n 0, 1) := by decide +kernel
theorem dX8_has_1 : decode cX8_has 1 = .ok (.iload_n 1, 1) := by decide +kernel
theorem dX8_has_2 : decode cX8_has 2 = .ok (.ishr, 1) := by decide +kernel
theorem dX8_has_3 : decode cX8_has 3 = .ok (.iconst 1, 1) := by decide +kernel
theorem dX8_has_4 : decode cX8_has 4 = .ok (.iand, 1) := by decide +kernel
theorem dX8_has_5 : decode cX8_has 5 = .ok (.iconst 1, 1) := by decide +kernel
theorem dX8_has_6 : decode cX8_has 6 = .ok (.if_icmp .ne 7, 3) := by decide +kernel
theorem dX8_has_9 : decode cX8_has 9 = .ok (.iconst 1, 1) := by decide +kernel
theorem dX8_has_10 : decode cX8_has 10 = .ok (.goto 4, 3) := by decide +kernel
theorem dX8_has_13 : decode cX8_has 13 = .ok (.iconst 0, 1) := by decide +kernel
theorem dX8_has_14 : decode cX8_has 14 = .ok (.ireturn, 1) := by decide +kernel
theorem dX8_bits_0 : decode cX8_bits 0 = .ok (.iconst 0, 1) := by decide +kernel
theorem dX8_bits_1 : decode cX8_bits 1 = .ok (.istore_n 1, 1) := by decide +kernel
theorem dX8_bits_2 : decode cX8_bits 2 = .ok (.iconst 0, 1) := by decide +kernel
theorem dX8_bits_3 : decode cX8_bits 3 = .ok (.istore_n 2, 1) := by decide +kernel
theorem dX8_bits_4 : decode cX8_bits 4 = .ok (.iload_n 2, 1) := by decide +kernel
theorem dX8_bits_5 : decode cX8_bits 5 = .ok (.bipush 12, 2) := by decide +kernel
theorem dX8_bits_7 : decode cX8_bits 7 = .ok (.if_icmp .ge 17, 3) := by decide +kernel
theorem dX8_bits_10 : decode cX8_bits 10 = .ok (.iload_n 1, 1) := by decide +kernel
theorem dX8_bits_11 : decode cX8_bits 11 = .ok (.iload_n 0, 1) := by decide +kernel
theorem dX8_bits_12 : decode cX8_bits 12 = .ok (.iload_n 2, 1) := by decide +kernel
theorem dX8_bits_13 : decode cX8_bits 13 = .ok (.ishr, 1) := by decide +kernel
theorem dX8_bits_14 : decode cX8_bits 14 = .ok (.iconst 1, 1) := by decide +kernel
theorem dX8_bits_15 : decode cX8_bits 15 = .ok (.iand, 1) := by decide +kernel
theorem dX8_bits_16 : decode cX8_bits 16 = .ok (.iadd, 1) := by decide +kernel
theorem dX8_bits_17 : decode cX8_bits 17 = .ok (.istore_n 1, 1) := by decide +kernel
theorem dX8_bits_18 : decode cX8_bits 18 = .ok (.iinc 2 1, 3) := by decide +kernel
theorem dX8_bits_21 : decode cX8_bits 21 = .ok (.goto (-17), 3) := by decide +kernel
theorem dX8_bits_24 : decode cX8_bits 24 = .ok (.iload_n 1, 1) := by decide +kernel
theorem dX8_bits_25 : decode cX8_bits 25 = .ok (.ireturn, 1) := by decide +kernel
set_option maxRecDepth 20000 in
theorem ggX8_write_X8_in : GoodIn wsX8_write wsX8_in := goodIn_r _ [7] (by decide +kernel) (by decide +kernel)
set_option maxRecDepth 20000 in
theorem gX8_write_X8_in : GoodIn wsX8_write (va_wsS RX8 86 yX8_in wsX8_in) := goodIn_app (goodIn_of _ (by decide +kernel)) ggX8_write_X8_in
theorem dX8_write_0 : decode cX8_write 0 = .ok (.iload_n 1, 1) := by decide +kernel
theorem dX8_write_1 : decode cX8_write 1 = .ok (.i2l, 1) := by decide +kernel
theorem dX8_write_2 : decode cX8_write 2 = .ok (.lconst 0, 1) := by decide +kernel
theorem dX8_write_3 : decode cX8_write 3 = .ok (.ldc2_w 84, 3) := by decide +kernel
theorem dX8_write_6 : decode cX8_write 6 = .ok (.invokestatic 86, 3) := by decide +kernel
theorem dX8_write_9 : decode cX8_write 9 = .ok (.ifCond .ne 6, 3) := by decide +kernel
theorem dX8_write_12 : decode cX8_write 12 = .ok (.bipush (-3), 2) := by decide +kernel
theorem dX8_write_14 : decode cX8_write 14 = .ok (.ireturn, 1) := by decide +kernel
theorem dX8_write_15 : decode cX8_write 15 = .ok (.aload_n 0, 1) := by decide +kernel
theorem dX8_write_16 : decode cX8_write 16 = .ok (.getfield 90, 3) := by decide +kernel
theorem dX8_write_19 : decode cX8_write 19 = .ok (.sipush 200, 3) := by decide +kernel
theorem dX8_write_22 : decode cX8_write 22 = .ok (.if_icmp .ne 6, 3) := by decide +kernel
theorem dX8_write_25 : decode cX8_write 25 = .ok (.bipush (-5), 2) := by decide +kernel
theorem dX8_write_27 : decode cX8_write 27 = .ok (.ireturn, 1) := by decide +kernel
theorem dX8_write_28 : decode cX8_write 28 = .ok (.aload_n 0, 1) := by decide +kernel
theorem dX8_write_29 : decode cX8_write 29 = .ok (.getfield 17, 3) := by decide +kernel
theorem dX8_write_32 : decode cX8_write 32 = .ok (.aload_n 0, 1) := by decide +kernel
theorem dX8_write_33 : decode cX8_write 33 = .ok (.getfield 90, 3) := by decide +kernel
theorem dX8_write_36 : decode cX8_write 36 = .ok (.iload_n 1, 1) := by decide +kernel
theorem dX8_write_37 : decode cX8_write 37 = .ok (.iastore, 1) := by decide +kernel
theorem dX8_write_38 : decode cX8_write 38 = .ok (.aload_n 0, 1) := by decide +kernel
theorem dX8_write_39 : decode cX8_write 39 = .ok (.dup, 1) := by decide +kernel
theorem dX8_write_40 : decode cX8_write 40 = .ok (.getfield 90, 3) := by decide +kernel
theorem dX8_write_43 : decode cX8_write 43 = .ok (.iconst 1, 1) := by decide +kernel
theorem dX8_write_44 : decode cX8_write 44 = .ok (.iadd, 1) := by decide +kernel
theorem dX8_write_45 : decode cX8_write 45 = .ok (.putfield 90, 3) := by decide +kernel
theorem dX8_write_48 : decode cX8_write 48 = .ok (.aload_n 0, 1) := by decide +kernel
theorem dX8_write_49 : decode cX8_write 49 = .ok (.getfield 90, 3) := by decide +kernel
theorem dX8_write_52 : decode cX8_write 52 = .ok (.ireturn, 1) := by decide +kernel
theorem dX8_erase_0 : decode cX8_erase 0 = .ok (.aload_n 0, 1) := by decide +kernel
theorem dX8_erase_1 : decode cX8_erase 1 = .ok (.getfield 90, 3) := by decide +kernel
theorem dX8_erase_4 : decode cX8_erase 4 = .ok (.istore_n 1, 1) := by decide +kernel
theorem dX8_erase_5 : decode cX8_erase 5 = .ok (.aload_n 0, 1) := by decide +kernel
theorem dX8_erase_6 : decode cX8_erase 6 = .ok (.iconst 0, 1) := by decide +kernel
theorem dX8_erase_7 : decode cX8_erase 7 = .ok (.putfield 90, 3) := by decide +kernel
theorem dX8_erase_10 : decode cX8_erase 10 = .ok (.iload_n 1, 1) := by decide +kernel
theorem dX8_erase_11 : decode cX8_erase 11 = .ok (.ireturn, 1) := by decide +kernel
set_option maxRecDepth 20000 in
theorem ggX8_isLetter_X8_in : GoodIn wsX8_isLetter wsX8_in := goodIn_r _ [6] (by decide +kernel) (by decide +kernel)
set_option maxRecDepth 20000 in
theorem gX8_isLetter_X8_in : GoodIn wsX8_isLetter (va_wsS RX8 86 yX8_in wsX8_in) := goodIn_app (goodIn_of _ (by decide +kernel)) ggX8_isLetter_X8_in
theorem dX8_isLetter_0 : decode cX8_isLetter 0 = .ok (.iload_n 0, 1) := by decide +kernel
theorem dX8_isLetter_1 : decode cX8_isLetter 1 = .ok (.i2l, 1) := by decide +kernel
theorem dX8_isLetter_2 : decode cX8_isLetter 2 = .ok (.ldc2_w 94, 3) := by decide +kernel
theorem dX8_isLetter_5 : decode cX8_isLetter 5 = .ok (.ldc2_w 96, 3) := by decide +kernel
theorem dX8_isLetter_8 : decode cX8_isLetter 8 = .ok (.invokestatic 86, 3) := by decide +kernel
theorem dX8_isLetter_11 : decode cX8_isLetter 11 = .ok (.ireturn, 1) := by decide +kernel
set_option maxRecDepth 20000 in
theorem ggX8_isDigit_X8_in : GoodIn wsX8_isDigit wsX8_in := goodIn_r _ [6] (by decide +kernel) (by decide +kernel)
set_option maxRecDepth 20000 in
theorem gX8_isDigit_X8_in : GoodIn wsX8_isDigit (va_wsS RX8 86 yX8_in wsX8_in) := goodIn_app (goodIn_of _ (by decide +kernel)) ggX8_isDigit_X8_in
theorem dX8_isDigit_0 : decode cX8_isDigit 0 = .ok (.iload_n 0, 1) := by decide +kernel
theorem dX8_isDigit_1 : decode cX8_isDigit 1 = .ok (.i2l, 1) := by decide +kernel
theorem dX8_isDigit_2 : decode cX8_isDigit 2 = .ok (.ldc2_w 98, 3) := by decide +kernel
theorem dX8_isDigit_5 : decode cX8_isDigit 5 = .ok (.ldc2_w 100, 3) := by decide +kernel
theorem dX8_isDigit_8 : decode cX8_isDigit 8 = .ok (.invokestatic 86, 3) := by decide +kernel
theorem dX8_isDigit_11 : decode cX8_isDigit 11 = .ok (.ireturn, 1) := by decide +kernel
set_option maxRecDepth 20000 in
theorem ggX8_nextToken_X8_isLetter : GoodIn wsX8_nextToken wsX8_isLetter := goodIn_r _ [8, 9, 10, 11, 12, 7, 13] (by decide +kernel) (by decide +kernel)
set_option maxRecDepth 20000 in
theorem gX8_nextToken_X8_isLetter : GoodIn wsX8_nextToken (va_wsS RX8 108 yX8_isLetter wsX8_isLetter) := goodIn_app (goodIn_of _ (by decide +kernel)) ggX8_nextToken_X8_isLetter
set_option maxRecDepth 20000 in
theorem ggX8_nextToken_X8_isDigit : GoodIn wsX8_nextToken wsX8_isDigit := goodIn_r _ [16, 17, 18, 11, 12, 7, 13] (by decide +kernel) (by decide +kernel)
set_option maxRecDepth 20000 in
theorem gX8_nextToken_X8_isDigit : GoodIn wsX8_nextToken (va_wsS RX8 112 yX8_isDigit wsX8_isDigit) := goodIn_app (goodIn_of _ (by decide +kernel)) ggX8_nextToken_X8_isDigit
theorem dX8_nextToken_0 : decode cX8_nextToken 0 = .ok (.aload_n 0, 1) := by decide +kernel
theorem dX8_nextToken_1 : decode cX8_nextToken 1 = .ok (.aload_n 0, 1) := by decide +kernel
theorem dX8_nextToken_2 : decode cX8_nextToken 2 = .ok (.getfield 102, 3) := by decide +kernel
theorem dX8_nextToken_5 : decode cX8_nextToken 5 = .ok (.putfield 105, 3) := by decide +kernel
theorem dX8_nextToken_8 : decode cX8_nextToken 8 = .ok (.aload_n 0, 1) := by decide +kernel
theorem dX8_nextToken_9 : decode cX8_nextToken 9 = .ok (.getfield 105, 3) := by decide +kernel
theorem dX8_nextToken_12 : decode cX8_nextToken 12 = .ok (.aload_n 0, 1) := by decide +kernel
theorem dX8_nextToken_13 : decode cX8_nextToken 13 = .ok (.getfield 90, 3) := by decide +kernel
theorem dX8_nextToken_16 : decode cX8_nextToken 16 = .ok (.if_icmp .ge 30, 3) := by decide +kernel
theorem dX8_nextToken_19 : decode cX8_nextToken 19 = .ok (.aload_n 0, 1) := by decide +kernel
theorem dX8_nextToken_20 : decode cX8_nextToken 20 = .ok (.getfield 17, 3) := by decide +kernel
theorem dX8_nextToken_23 : decode cX8_nextToken 23 = .ok (.aload_n 0, 1) := by decide +kernel
theorem dX8_nextToken_24 : decode cX8_nextToken 24 = .ok (.getfield 105, 3) := by decide +kernel
theorem dX8_nextToken_27 : decode cX8_nextToken 27 = .ok (.iaload, 1) := by decide +kernel
theorem dX8_nextToken_28 : decode cX8_nextToken 28 = .ok (.bipush 32, 2) := by decide +kernel
theorem dX8_nextToken_30 : decode cX8_nextToken 30 = .ok (.if_icmp .ne 16, 3) := by decide +kernel
theorem dX8_nextToken_33 : decode cX8_nextToken 33 = .ok (.aload_n 0, 1) := by decide +kernel
theorem dX8_nextToken_34 : decode cX8_nextToken 34 = .ok (.dup, 1) := by decide +kernel
theorem dX8_nextToken_35 : decode cX8_nextToken 35 = .ok (.getfield 105, 3) := by decide +kernel
theorem dX8_nextToken_38 : decode cX8_nextToken 38 = .ok (.iconst 1, 1) := by decide +kernel
theorem dX8_nextToken_39 : decode cX8_nextToken 39 = .ok (.iadd, 1) := by decide +kernel
theorem dX8_nextToken_40 : decode cX8_nextToken 40 = .ok (.putfield 105, 3) := by decide +kernel
theorem dX8_nextToken_43 : decode cX8_nextToken 43 = .ok (.goto (-35), 3) := by decide +kernel
theorem dX8_nextToken_46 : decode cX8_nextToken 46 = .ok (.aload_n 0, 1) := by decide +kernel
theorem dX8_nextToken_47 : decode cX8_nextToken 47 = .ok (.aload_n 0, 1) := by decide +kernel
theorem dX8_nextToken_48 : decode cX8_nextToken 48 = .ok (.getfield 105, 3) := by decide +kernel
theorem dX8_nextToken_51 : decode cX8_nextToken 51 = .ok (.aload_n 0, 1) := by decide +kernel
theorem dX8_nextToken_52 : decode cX8_nextToken 52 = .ok (.getfield 90, 3) := by decide +kernel
theorem dX8_nextToken_55 : decode cX8_nextToken 55 = .ok (.if_icmp .ge 12, 3) := by decide +kernel
theorem dX8_nextToken_58 : decode cX8_nextToken 58 = .ok (.aload_n 0, 1) := by decide +kernel
theorem dX8_nextToken_59 : decode cX8_nextToken 59 = .ok (.getfield 105, 3) := by decide +kernel
theorem dX8_nextToken_62 : decode cX8_nextToken 62 = .ok (.iconst 1, 1) := by decide +kernel
theorem dX8_nextToken_63 : decode cX8_nextToken 63 = .ok (.iadd, 1) := by decide +kernel
theorem dX8_nextToken_64 : decode cX8_nextToken 64 = .ok (.goto 7, 3) := by decide +kernel
theorem dX8_nextToken_67 : decode cX8_nextToken 67 = .ok (.aload_n 0, 1) := by decide +kernel
theorem dX8_nextToken_68 : decode cX8_nextToken 68 = .ok (.getfield 105, 3) := by decide +kernel
theorem dX8_nextToken_71 : decode cX8_nextToken 71 = .ok (.putfield 102, 3) := by decide +kernel
theorem dX8_nextToken_74 : decode cX8_nextToken 74 = .ok (.aload_n 0, 1) := by decide +kernel
theorem dX8_nextToken_75 : decode cX8_nextToken 75 = .ok (.getfield 105, 3) := by decide +kernel
theorem dX8_nextToken_78 : decode cX8_nextToken 78 = .ok (.aload_n 0, 1) := by decide +kernel
theorem dX8_nextToken_79 : decode cX8_nextToken 79 = .ok (.getfield 90, 3) := by decide +kernel
theorem dX8_nextToken_82 : decode cX8_nextToken 82 = .ok (.if_icmp .ge 57, 3) := by decide +kernel
theorem dX8_nextToken_85 : decode cX8_nextToken 85 = .ok (.aload_n 0, 1) := by decide +kernel
theorem dX8_nextToken_86 : decode cX8_nextToken 86 = .ok (.getfield 17, 3) := by decide +kernel
theorem dX8_nextToken_89 : decode cX8_nextToken 89 = .ok (.aload_n 0, 1) := by decide +kernel
theorem dX8_nextToken_90 : decode cX8_nextToken 90 = .ok (.getfield 105, 3) := by decide +kernel
theorem dX8_nextToken_93 : decode cX8_nextToken 93 = .ok (.iaload, 1) := by decide +kernel
theorem dX8_nextToken_94 : decode cX8_nextToken 94 = .ok (.invokestatic 108, 3) := by decide +kernel
theorem dX8_nextToken_97 : decode cX8_nextToken 97 = .ok (.ifCond .eq 42, 3) := by decide +kernel
theorem dX8_nextToken_100 : decode cX8_nextToken 100 = .ok (.aload_n 0, 1) := by decide +kernel
theorem dX8_nextToken_101 : decode cX8_nextToken 101 = .ok (.getfield 102, 3) := by decide +kernel
theorem dX8_nextToken_104 : decode cX8_nextToken 104 = .ok (.aload_n 0, 1) := by decide +kernel
theorem dX8_nextToken_105 : decode cX8_nextToken 105 = .ok (.getfield 90, 3) := by decide +kernel
theorem dX8_nextToken_108 : decode cX8_nextToken 108 = .ok (.if_icmp .ge 96, 3) := by decide +kernel
theorem dX8_nextToken_111 : decode cX8_nextToken 111 = .ok (.aload_n 0, 1) := by decide +kernel
theorem dX8_nextToken_112 : decode cX8_nextToken 112 = .ok (.getfield 17, 3) := by decide +kernel
theorem dX8_nextToken_115 : decode cX8_nextToken 115 = .ok (.aload_n 0, 1) := by decide +kernel
theorem dX8_nextToken_116 : decode cX8_nextToken 116 = .ok (.getfield 102, 3) := by decide +kernel
theorem dX8_nextToken_119 : decode cX8_nextToken 119 = .ok (.iaload, 1) := by decide +kernel
theorem dX8_nextToken_120 : decode cX8_nextToken 120 = .ok (.invokestatic 108, 3) := by decide +kernel
theorem dX8_nextToken_123 : decode cX8_nextToken 123 = .ok (.ifCond .eq 81, 3) := by decide +kernel
theorem dX8_nextToken_126 : decode cX8_nextToken 126 = .ok (.aload_n 0, 1) := by decide +kernel
theorem dX8_nextToken_127 : decode cX8_nextToken 127 = .ok (.dup, 1) := by decide +kernel
theorem dX8_nextToken_128 : decode cX8_nextToken 128 = .ok (.getfield 102, 3) := by decide +kernel
theorem dX8_nextToken_131 : decode cX8_nextToken 131 = .ok (.iconst 1, 1) := by decide +kernel
theorem dX8_nextToken_132 : decode cX8_nextToken 132 = .ok (.iadd, 1) := by decide +kernel
theorem dX8_nextToken_133 : decode cX8_nextToken 133 = .ok (.putfield 102, 3) := by decide +kernel
theorem dX8_nextToken_136 : decode cX8_nextToken 136 = .ok (.goto (-36), 3) := by decide +kernel
theorem dX8_nextToken_139 : decode cX8_nextToken 139 = .ok (.aload_n 0, 1) := by decide +kernel
theorem dX8_nextToken_140 : decode cX8_nextToken 140 = .ok (.getfield 105, 3) := by decide +kernel
theorem dX8_nextToken_143 : decode cX8_nextToken 143 = .ok (.aload_n 0, 1) := by decide +kernel
theorem dX8_nextToken_144 : decode cX8_nextToken 144 = .ok (.getfield 90, 3) := by decide +kernel
theorem dX8_nextToken_147 : decode cX8_nextToken 147 = .ok (.if_icmp .ge 57, 3) := by decide +kernel
theorem dX8_nextToken_150 : decode cX8_nextToken 150 = .ok (.aload_n 0, 1) := by decide +kernel
theorem dX8_nextToken_151 : decode cX8_nextToken 151 = .ok (.getfield 17, 3) := by decide +kernel
theorem dX8_nextToken_154 : decode cX8_nextToken 154 = .ok (.aload_n 0, 1) := by decide +kernel
theorem dX8_nextToken_155 : decode cX8_nextToken 155 = .ok (.getfield 105, 3) := by decide +kernel
theorem dX8_nextToken_158 : decode cX8_nextToken 158 = .ok (.iaload, 1) := by decide +kernel
theorem dX8_nextToken_159 : decode cX8_nextToken 159 = .ok (.invokestatic 112, 3) := by decide +kernel
theorem dX8_nextToken_162 : decode cX8_nextToken 162 = .ok (.ifCond .eq 42, 3) := by decide +kernel
theorem dX8_nextToken_165 : decode cX8_nextToken 165 = .ok (.aload_n 0, 1) := by decide +kernel
theorem dX8_nextToken_166 : decode cX8_nextToken 166 = .ok (.getfield 102, 3) := by decide +kernel
theorem dX8_nextToken_169 : decode cX8_nextToken 169 = .ok (.aload_n 0, 1) := by decide +kernel
theorem dX8_nextToken_170 : decode cX8_nextToken 170 = .ok (.getfield 90, 3) := by decide +kernel
theorem dX8_nextToken_173 : decode cX8_nextToken 173 = .ok (.if_icmp .ge 31, 3) := by decide +kernel
theorem dX8_nextToken_176 : decode cX8_nextToken 176 = .ok (.aload_n 0, 1) := by decide +kernel
theorem dX8_nextToken_177 : decode cX8_nextToken 177 = .ok (.getfield 17, 3) := by decide +kernel
theorem dX8_nextToken_180 : decode cX8_nextToken 180 = .ok (.aload_n 0, 1) := by decide +kernel
theorem dX8_nextToken_181 : decode cX8_nextToken 181 = .ok (.getfield 102, 3) := by decide +kernel
theorem dX8_nextToken_184 : decode cX8_nextToken 184 = .ok (.iaload, 1) := by decide +kernel
theorem dX8_nextToken_185 : decode cX8_nextToken 185 = .ok (.invokestatic 112, 3) := by decide +kernel
theorem dX8_nextToken_188 : decode cX8_nextToken 188 = .ok (.ifCond .eq 16, 3) := by decide +kernel
theorem dX8_nextToken_191 : decode cX8_nextToken 191 = .ok (.aload_n 0, 1) := by decide +kernel
theorem dX8_nextToken_192 : decode cX8_nextToken 192 = .ok (.dup, 1) := by decide +kernel
theorem dX8_nextToken_193 : decode cX8_nextToken 193 = .ok (.getfield 102, 3) := by decide +kernel
theorem dX8_nextToken_196 : decode cX8_nextToken 196 = .ok (.iconst 1, 1) := by decide +kernel
theorem dX8_nextToken_197 : decode cX8_nextToken 197 = .ok (.iadd, 1) := by decide +kernel
