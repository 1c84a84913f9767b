theorem dX7_ask_71 : decode cX7_ask 71 = .ok (.invokevirtual 232, 3) := by decide +kernel
theorem dX7_ask_74 : decode cX7_ask 74 = .ok (.istore 7, 2) := by decide +kernel
theorem dX7_ask_76 : decode cX7_ask 76 = .ok (.iload 7, 2) := by decide +kernel
theorem dX7_ask_78 : decode cX7_ask 78 = .ok (.iload 5, 2) := by decide +kernel
theorem dX7_ask_80 : decode cX7_ask 80 = .ok (.if_icmp .ge 11, 3) := by decide +kernel
theorem dX7_ask_83 : decode cX7_ask 83 = .ok (.iload 7, 2) := by decide +kernel
theorem dX7_ask_85 : decode cX7_ask 85 = .ok (.istore 5, 2) := by decide +kernel
theorem dX7_ask_87 : decode cX7_ask 87 = .ok (.iload 6, 2) := by decide +kernel
theorem dX7_ask_89 : decode cX7_ask 89 = .ok (.istore 4, 2) := by decide +kernel
theorem dX7_ask_91 : decode cX7_ask 91 = .ok (.iinc 6 1, 3) := by decide +kernel
theorem dX7_ask_94 : decode cX7_ask 94 = .ok (.goto (-49), 3) := by decide +kernel
theorem dX7_ask_97 : decode cX7_ask 97 = .ok (.iload 4, 2) := by decide +kernel
theorem dX7_ask_99 : decode cX7_ask 99 = .ok (.ireturn, 1) := by decide +kernel
set_option maxRecDepth 20000 in
theorem ggX7_slate_X7_isSlate : GoodIn wsX7_slate wsX7_isSlate := goodIn_r _ [5] (by decide +kernel) (by decide +kernel)
set_option maxRecDepth 20000 in
theorem gX7_slate_X7_isSlate : GoodIn wsX7_slate (va_wsS RX7 235 yX7_isSlate wsX7_isSlate) := goodIn_app (goodIn_of _ (by decide +kernel)) ggX7_slate_X7_isSlate
set_option maxRecDepth 20000 in
theorem ggX7_slate_X7_isSort : GoodIn wsX7_slate wsX7_isSort := goodIn_r _ [8] (by decide +kernel) (by decide +kernel)
set_option maxRecDepth 20000 in
theorem gX7_slate_X7_isSort : GoodIn wsX7_slate (va_wsS RX7 238 yX7_isSort wsX7_isSort) := goodIn_app (goodIn_of _ (by decide +kernel)) ggX7_slate_X7_isSort
set_option maxRecDepth 20000 in
theorem ggX7_slate_X5_begin : GoodIn wsX7_slate wsX5_begin := goodIn_r _ [13, 14, 15, 16, 17, 31, 32, 33, 34] (by decide +kernel) (by decide +kernel)
set_option maxRecDepth 20000 in
theorem gX7_slate_X5_begin : GoodIn wsX7_slate (wsV RX7 241 RX5 yX5_begin wsX5_begin) := goodIn_app (goodIn_of _ (by decide +kernel)) ggX7_slate_X5_begin
theorem dX7_slate_0 : decode cX7_slate 0 = .ok (.iload_n 1, 1) := by decide +kernel
theorem dX7_slate_1 : decode cX7_slate 1 = .ok (.invokestatic 235, 3) := by decide +kernel
theorem dX7_slate_4 : decode cX7_slate 4 = .ok (.ifCond .ne 6, 3) := by decide +kernel
theorem dX7_slate_7 : decode cX7_slate 7 = .ok (.bipush (-2), 2) := by decide +kernel
theorem dX7_slate_9 : decode cX7_slate 9 = .ok (.ireturn, 1) := by decide +kernel
theorem dX7_slate_10 : decode cX7_slate 10 = .ok (.iload_n 2, 1) := by decide +kernel
theorem dX7_slate_11 : decode cX7_slate 11 = .ok (.invokestatic 238, 3) := by decide +kernel
theorem dX7_slate_14 : decode cX7_slate 14 = .ok (.ifCond .eq 9, 3) := by decide +kernel
theorem dX7_slate_17 : decode cX7_slate 17 = .ok (.iload_n 3, 1) := by decide +kernel
theorem dX7_slate_18 : decode cX7_slate 18 = .ok (.bipush 10, 2) := by decide +kernel
theorem dX7_slate_20 : decode cX7_slate 20 = .ok (.if_icmp .le 6, 3) := by decide +kernel
theorem dX7_slate_23 : decode cX7_slate 23 = .ok (.bipush (-3), 2) := by decide +kernel
theorem dX7_slate_25 : decode cX7_slate 25 = .ok (.ireturn, 1) := by decide +kernel
theorem dX7_slate_26 : decode cX7_slate 26 = .ok (.iload_n 3, 1) := by decide +kernel
theorem dX7_slate_27 : decode cX7_slate 27 = .ok (.ifCond .ge 6, 3) := by decide +kernel
theorem dX7_slate_30 : decode cX7_slate 30 = .ok (.bipush (-16), 2) := by decide +kernel
theorem dX7_slate_32 : decode cX7_slate 32 = .ok (.ireturn, 1) := by decide +kernel
theorem dX7_slate_33 : decode cX7_slate 33 = .ok (.aload_n 0, 1) := by decide +kernel
theorem dX7_slate_34 : decode cX7_slate 34 = .ok (.getfield 59, 3) := by decide +kernel
theorem dX7_slate_37 : decode cX7_slate 37 = .ok (.iload_n 1, 1) := by decide +kernel
theorem dX7_slate_38 : decode cX7_slate 38 = .ok (.aaload, 1) := by decide +kernel
theorem dX7_slate_39 : decode cX7_slate 39 = .ok (.iload_n 2, 1) := by decide +kernel
theorem dX7_slate_40 : decode cX7_slate 40 = .ok (.iload_n 3, 1) := by decide +kernel
theorem dX7_slate_41 : decode cX7_slate 41 = .ok (.invokevirtual 241, 3) := by decide +kernel
theorem dX7_slate_44 : decode cX7_slate 44 = .ok (.iload_n 3, 1) := by decide +kernel
theorem dX7_slate_45 : decode cX7_slate 45 = .ok (.ireturn, 1) := by decide +kernel
set_option maxRecDepth 20000 in
theorem ggX7_chalk_X7_isSlate : GoodIn wsX7_chalk wsX7_isSlate := goodIn_r _ [6] (by decide +kernel) (by decide +kernel)
set_option maxRecDepth 20000 in
theorem gX7_chalk_X7_isSlate : GoodIn wsX7_chalk (va_wsS RX7 235 yX7_isSlate wsX7_isSlate) := goodIn_app (goodIn_of _ (by decide +kernel)) ggX7_chalk_X7_isSlate
set_option maxRecDepth 20000 in
theorem ggX7_chalk_X7_isSort : GoodIn wsX7_chalk wsX7_isSort := goodIn_r _ [9] (by decide +kernel) (by decide +kernel)
set_option maxRecDepth 20000 in
theorem gX7_chalk_X7_isSort : GoodIn wsX7_chalk (va_wsS RX7 238 yX7_isSort wsX7_isSort) := goodIn_app (goodIn_of _ (by decide +kernel)) ggX7_chalk_X7_isSort
set_option maxRecDepth 20000 in
theorem ggX7_chalk_X7_isPart : GoodIn wsX7_chalk wsX7_isPart := goodIn_r _ [12, 13, 14] (by decide +kernel) (by decide +kernel)
set_option maxRecDepth 20000 in
theorem gX7_chalk_X7_isPart : GoodIn wsX7_chalk (va_wsS RX7 243 yX7_isPart wsX7_isPart) := goodIn_app (goodIn_of _ (by decide +kernel)) ggX7_chalk_X7_isPart
set_option maxRecDepth 20000 in
theorem ggX7_chalk_X5_findPlace : GoodIn wsX7_chalk wsX5_findPlace := goodIn_r _ [19, 20, 21, 22, 23, 18, 24, 25, 26, 27, 28, 29, 70, 71, 72, 73] (by decide +kernel) (by decide +kernel)
set_option maxRecDepth 20000 in
theorem gX7_chalk_X5_findPlace : GoodIn wsX7_chalk (wsV RX7 247 RX5 yX5_findPlace wsX5_findPlace) := goodIn_app (goodIn_of _ (by decide +kernel)) ggX7_chalk_X5_findPlace
set_option maxRecDepth 20000 in
theorem ggX7_chalk_X5_setPlace : GoodIn wsX7_chalk wsX5_setPlace := goodIn_r _ [33, 20, 34, 35, 36, 37, 38, 39, 40, 41, 42, 43, 44, 45, 46, 47, 48, 49, 50, 51, 52, 18, 53, 54, 55, 56, 70, 71, 72, 73, 74, 75] (by decide +kernel) (by decide +kernel)
set_option maxRecDepth 20000 in
theorem gX7_chalk_X5_setPlace : GoodIn wsX7_chalk (wsV RX7 251 RX5 yX5_setPlace wsX5_setPlace) := goodIn_app (goodIn_of _ (by decide +kernel)) ggX7_chalk_X5_setPlace
theorem dX7_chalk_0 : decode cX7_chalk 0 = .ok (.iload_n 1, 1) := by decide +kernel
theorem dX7_chalk_1 : decode cX7_chalk 1 = .ok (.invokestatic 235, 3) := by decide +kernel
theorem dX7_chalk_4 : decode cX7_chalk 4 = .ok (.ifCond .ne 6, 3) := by decide +kernel
theorem dX7_chalk_7 : decode cX7_chalk 7 = .ok (.bipush (-2), 2) := by decide +kernel
theorem dX7_chalk_9 : decode cX7_chalk 9 = .ok (.ireturn, 1) := by decide +kernel
theorem dX7_chalk_10 : decode cX7_chalk 10 = .ok (.iload_n 2, 1) := by decide +kernel
theorem dX7_chalk_11 : decode cX7_chalk 11 = .ok (.invokestatic 238, 3) := by decide +kernel
theorem dX7_chalk_14 : decode cX7_chalk 14 = .ok (.ifCond .eq 20, 3) := by decide +kernel
theorem dX7_chalk_17 : decode cX7_chalk 17 = .ok (.iload_n 2, 1) := by decide +kernel
theorem dX7_chalk_18 : decode cX7_chalk 18 = .ok (.iconst 2, 1) := by decide +kernel
theorem dX7_chalk_19 : decode cX7_chalk 19 = .ok (.if_icmp .ne 18, 3) := by decide +kernel
theorem dX7_chalk_22 : decode cX7_chalk 22 = .ok (.iload 4, 2) := by decide +kernel
theorem dX7_chalk_24 : decode cX7_chalk 24 = .ok (.i2l, 1) := by decide +kernel
theorem dX7_chalk_25 : decode cX7_chalk 25 = .ok (.iload 5, 2) := by decide +kernel
theorem dX7_chalk_27 : decode cX7_chalk 27 = .ok (.i2l, 1) := by decide +kernel
theorem dX7_chalk_28 : decode cX7_chalk 28 = .ok (.invokestatic 243, 3) := by decide +kernel
theorem dX7_chalk_31 : decode cX7_chalk 31 = .ok (.ifCond .ne 6, 3) := by decide +kernel
theorem dX7_chalk_34 : decode cX7_chalk 34 = .ok (.bipush (-3), 2) := by decide +kernel
theorem dX7_chalk_36 : decode cX7_chalk 36 = .ok (.ireturn, 1) := by decide +kernel
theorem dX7_chalk_37 : decode cX7_chalk 37 = .ok (.aload_n 0, 1) := by decide +kernel
theorem dX7_chalk_38 : decode cX7_chalk 38 = .ok (.getfield 59, 3) := by decide +kernel
theorem dX7_chalk_41 : decode cX7_chalk 41 = .ok (.iload_n 1, 1) := by decide +kernel
theorem dX7_chalk_42 : decode cX7_chalk 42 = .ok (.aaload, 1) := by decide +kernel
theorem dX7_chalk_43 : decode cX7_chalk 43 = .ok (.iload_n 2, 1) := by decide +kernel
theorem dX7_chalk_44 : decode cX7_chalk 44 = .ok (.iload_n 3, 1) := by decide +kernel
theorem dX7_chalk_45 : decode cX7_chalk 45 = .ok (.invokevirtual 247, 3) := by decide +kernel
theorem dX7_chalk_48 : decode cX7_chalk 48 = .ok (.istore 6, 2) := by decide +kernel
theorem dX7_chalk_50 : decode cX7_chalk 50 = .ok (.iload 6, 2) := by decide +kernel
theorem dX7_chalk_52 : decode cX7_chalk 52 = .ok (.ifCond .eq 6, 3) := by decide +kernel
theorem dX7_chalk_55 : decode cX7_chalk 55 = .ok (.iload 6, 2) := by decide +kernel
theorem dX7_chalk_57 : decode cX7_chalk 57 = .ok (.ireturn, 1) := by decide +kernel
theorem dX7_chalk_58 : decode cX7_chalk 58 = .ok (.aload_n 0, 1) := by decide +kernel
theorem dX7_chalk_59 : decode cX7_chalk 59 = .ok (.getfield 59, 3) := by decide +kernel
theorem dX7_chalk_62 : decode cX7_chalk 62 = .ok (.iload_n 1, 1) := by decide +kernel
theorem dX7_chalk_63 : decode cX7_chalk 63 = .ok (.aaload, 1) := by decide +kernel
theorem dX7_chalk_64 : decode cX7_chalk 64 = .ok (.iload_n 3, 1) := by decide +kernel
theorem dX7_chalk_65 : decode cX7_chalk 65 = .ok (.iload 4, 2) := by decide +kernel
theorem dX7_chalk_67 : decode cX7_chalk 67 = .ok (.iload 5, 2) := by decide +kernel
theorem dX7_chalk_69 : decode cX7_chalk 69 = .ok (.aload_n 0, 1) := by decide +kernel
theorem dX7_chalk_70 : decode cX7_chalk 70 = .ok (.getfield 66, 3) := by decide +kernel
theorem dX7_chalk_73 : decode cX7_chalk 73 = .ok (.invokevirtual 251, 3) := by decide +kernel
theorem dX7_chalk_76 : decode cX7_chalk 76 = .ok (.iconst 1, 1) := by decide +kernel
theorem dX7_chalk_77 : decode cX7_chalk 77 = .ok (.ireturn, 1) := by decide +kernel
set_option maxRecDepth 20000 in
theorem ggX7_show_X7_isSlate : GoodIn wsX7_show wsX7_isSlate := goodIn_r _ [5] (by decide +kernel) (by decide +kernel)
set_option maxRecDepth 20000 in
theorem gX7_show_X7_isSlate : GoodIn wsX7_show (va_wsS RX7 235 yX7_isSlate wsX7_isSlate) := goodIn_app (goodIn_of _ (by decide +kernel)) ggX7_show_X7_isSlate
set_option maxRecDepth 20000 in
theorem ggX7_show_X7_isSort : GoodIn wsX7_show wsX7_isSort := goodIn_r _ [8] (by decide +kernel) (by decide +kernel)
set_option maxRecDepth 20000 in
theorem gX7_show_X7_isSort : GoodIn wsX7_show (va_wsS RX7 238 yX7_isSort wsX7_isSort) := goodIn_app (goodIn_of _ (by decide +kernel)) ggX7_show_X7_isSort
set_option maxRecDepth 20000 in
theorem ggX7_show_X5_findPlace : GoodIn wsX7_show wsX5_findPlace := goodIn_r _ [13, 14, 15, 16, 17, 12, 18, 19, 20, 21, 22, 23, 54, 55, 56, 57] (by decide +kernel) (by decide +kernel)
set_option maxRecDepth 20000 in
theorem gX7_show_X5_findPlace : GoodIn wsX7_show (wsV RX7 247 RX5 yX5_findPlace wsX5_findPlace) := goodIn_app (goodIn_of _ (by decide +kernel)) ggX7_show_X5_findPlace
set_option maxRecDepth 20000 in
theorem ggX7_show_X5_isNothingAt : GoodIn wsX7_show wsX5_isNothingAt := goodIn_r _ [27, 14, 28, 54, 55, 56, 57] (by decide +kernel) (by decide +kernel)
set_option maxRecDepth 20000 in
theorem gX7_show_X5_isNothingAt : GoodIn wsX7_show (wsV RX7 255 RX5 yX5_isNothingAt wsX5_isNothingAt) := goodIn_app (goodIn_of _ (by decide +kernel)) ggX7_show_X5_isNothingAt
set_option maxRecDepth 20000 in
theorem ggX7_show_X5_shown : GoodIn wsX7_show wsX5_shown := goodIn_r _ [32, 14, 33, 34, 28, 35, 36, 37, 38, 39, 40, 54, 55, 56, 57] (by decide +kernel) (by decide +kernel)
set_option maxRecDepth 20000 in
theorem gX7_show_X5_shown : GoodIn wsX7_show (wsV RX7 258 RX5 yX5_shown wsX5_shown) := goodIn_app (goodIn_of _ (by decide +kernel)) ggX7_show_X5_shown
theorem dX7_show_0 : decode cX7_show 0 = .ok (.iload_n 1, 1) := by decide +kernel
theorem dX7_show_1 : decode cX7_show 1 = .ok (.invokestatic 235, 3) := by decide +kernel
theorem dX7_show_4 : decode cX7_show 4 = .ok (.ifCond .ne 6, 3) := by decide +kernel
theorem dX7_show_7 : decode cX7_show 7 = .ok (.bipush (-2), 2) := by decide +kernel
theorem dX7_show_9 : decode cX7_show 9 = .ok (.ireturn, 1) := by decide +kernel
theorem dX7_show_10 : decode cX7_show 10 = .ok (.iload_n 2, 1) := by decide +kernel
theorem dX7_show_11 : decode cX7_show 11 = .ok (.invokestatic 238, 3) := by decide +kernel
theorem dX7_show_14 : decode cX7_show 14 = .ok (.ifCond .eq 14, 3) := by decide +kernel
theorem dX7_show_17 : decode cX7_show 17 = .ok (.iload 4, 2) := by decide +kernel
theorem dX7_show_19 : decode cX7_show 19 = .ok (.ifCond .lt 9, 3) := by decide +kernel
theorem dX7_show_22 : decode cX7_show 22 = .ok (.iload 4, 2) := by decide +kernel
theorem dX7_show_24 : decode cX7_show 24 = .ok (.iconst 1, 1) := by decide +kernel
theorem dX7_show_25 : decode cX7_show 25 = .ok (.if_icmp .le 6, 3) := by decide +kernel
theorem dX7_show_28 : decode cX7_show 28 = .ok (.bipush (-3), 2) := by decide +kernel
theorem dX7_show_30 : decode cX7_show 30 = .ok (.ireturn, 1) := by decide +kernel
theorem dX7_show_31 : decode cX7_show 31 = .ok (.aload_n 0, 1) := by decide +kernel
theorem dX7_show_32 : decode cX7_show 32 = .ok (.getfield 59, 3) := by decide +kernel
theorem dX7_show_35 : decode cX7_show 35 = .ok (.iload_n 1, 1) := by decide +kernel
theorem dX7_show_36 : decode cX7_show 36 = .ok (.aaload, 1) := by decide +kernel
theorem dX7_show_37 : decode cX7_show 37 = .ok (.iload_n 2, 1) := by decide +kernel
theorem dX7_show_38 : decode cX7_show 38 = .ok (.iload_n 3, 1) := by decide +kernel
theorem dX7_show_39 : decode cX7_show 39 = .ok (.invokevirtual 247, 3) := by decide +kernel
theorem dX7_show_42 : decode cX7_show 42 = .ok (.istore 5, 2) := by decide +kernel
theorem dX7_show_44 : decode cX7_show 44 = .ok (.iload 5, 2) := by decide +kernel
theorem dX7_show_46 : decode cX7_show 46 = .ok (.ifCond .eq 6, 3) := by decide +kernel
theorem dX7_show_49 : decode cX7_show 49 = .ok (.iload 5, 2) := by decide +kernel
theorem dX7_show_51 : decode cX7_show 51 = .ok (.ireturn, 1) := by decide +kernel
theorem dX7_show_52 : decode cX7_show 52 = .ok (.aload_n 0, 1) := by decide +kernel
theorem dX7_show_53 : decode cX7_show 53 = .ok (.getfield 59, 3) := by decide +kernel
theorem dX7_show_56 : decode cX7_show 56 = .ok (.iload_n 1, 1) := by decide +kernel
theorem dX7_show_57 : decode cX7_show 57 = .ok (.aaload, 1) := by decide +kernel
theorem dX7_show_58 : decode cX7_show 58 = .ok (.iload_n 3, 1) := by decide +kernel
theorem dX7_show_59 : decode cX7_show 59 = .ok (.invokevirtual 255, 3) := by decide +kernel
theorem dX7_show_62 : decode cX7_show 62 = .ok (.ifCond .eq 6, 3) := by decide +kernel
theorem dX7_show_65 : decode cX7_show 65 = .ok (.bipush (-15), 2) := by decide +kernel
theorem dX7_show_67 : decode cX7_show 67 = .ok (.ireturn, 1) := by decide +kernel
theorem dX7_show_68 : decode cX7_show 68 = .ok (.aload_n 0, 1) := by decide +kernel
theorem dX7_show_69 : decode cX7_show 69 = .ok (.getfield 59, 3) := by decide +kernel
theorem dX7_show_72 : decode cX7_show 72 = .ok (.iload_n 1, 1) := by decide +kernel
theorem dX7_show_73 : decode cX7_show 73 = .ok (.aaload, 1) := by decide +kernel
theorem dX7_show_74 : decode cX7_show 74 = .ok (.iload_n 3, 1) := by decide +kernel
theorem dX7_show_75 : decode cX7_show 75 = .ok (.iload 4, 2) := by decide +kernel
theorem dX7_show_77 : decode cX7_show 77 = .ok (.invokevirtual 258, 3) := by decide +kernel
theorem dX7_show_80 : decode cX7_show 80 = .ok (.ireturn, 1) := by decide +kernel
set_option maxRecDepth 20000 in
theorem ggX7_reckon_X7_isSlate : GoodIn wsX7_reckon wsX7_isSlate := goodIn_r _ [8] (by decide +kernel) (by decide +kernel)
set_option maxRecDepth 20000 in
theorem gX7_reckon_X7_isSlate : GoodIn wsX7_reckon (va_wsS RX7 235 yX7_isSlate wsX7_isSlate) := goodIn_app (goodIn_of _ (by decide +kernel)) ggX7_reckon_X7_isSlate
set_option maxRecDepth 20000 in
theorem ggX7_reckon_X5_findParts : GoodIn wsX7_reckon wsX5_findParts := goodIn_r _ [13, 14, 15, 16, 12, 17, 18, 19, 20, 21, 22, 23, 24, 25, 26, 27, 28, 29, 30, 31, 32, 80, 81, 82, 83] (by decide +kernel) (by decide +kernel)
set_option maxRecDepth 20000 in
theorem gX7_reckon_X5_findParts : GoodIn wsX7_reckon (wsV RX7 261 RX5 yX5_findParts wsX5_findParts) := goodIn_app (goodIn_of _ (by decide +kernel)) ggX7_reckon_X5_findParts
set_option maxRecDepth 20000 in
theorem ggX7_reckon_X7_setReckoned : GoodIn wsX7_reckon wsX7_setReckoned := goodIn_r _ [36, 37, 38, 2, 39, 40, 41, 42, 43, 44, 45, 46, 47, 48, 49, 50, 51, 52, 80, 81, 82, 83, 65, 66, 67, 68, 69, 70, 71, 72, 73, 74, 75, 76, 77, 78, 79] (by decide +kernel) (by decide +kernel)
set_option maxRecDepth 20000 in
theorem gX7_reckon_X7_setReckoned : GoodIn wsX7_reckon (wsV RX7 265 RX7 yX7_setReckoned wsX7_setReckoned) := goodIn_app (goodIn_of _ (by decide +kernel)) ggX7_reckon_X7_setReckoned
set_option maxRecDepth 20000 in
theorem ggX7_reckon_X7_isPart : GoodIn wsX7_reckon wsX7_isPart := goodIn_r _ [55, 56, 57] (by decide +kernel) (by decide +kernel)
set_option maxRecDepth 20000 in
theorem gX7_reckon_X7_isPart : GoodIn wsX7_reckon (va_wsS RX7 243 yX7_isPart wsX7_isPart) := goodIn_app (goodIn_of _ (by decide +kernel)) ggX7_reckon_X7_isPart
set_option maxRecDepth 20000 in
theorem ggX7_reckon_X5_setPart : GoodIn wsX7_reckon wsX5_setPart := goodIn_r _ [61, 62, 63, 32, 64, 80, 81, 82, 83, 78, 79] (by decide +kernel) (by decide +kernel)
set_option maxRecDepth 20000 in
theorem gX7_reckon_X5_setPart : GoodIn wsX7_reckon (wsV RX7 269 RX5 yX5_setPart wsX5_setPart) := goodIn_app (goodIn_of _ (by decide +kernel)) ggX7_reckon_X5_setPart
theorem dX7_reckon_0 : decode cX7_reckon 0 = .ok (.iload_n 1, 1) := by decide +kernel
theorem dX7_reckon_1 : decode cX7_reckon 1 = .ok (.invokestatic 235, 3) := by decide +kernel
theorem dX7_reckon_4 : decode cX7_reckon 4 = .ok (.ifCond .ne 6, 3) := by decide +kernel
theorem dX7_reckon_7 : decode cX7_reckon 7 = .ok (.bipush (-2), 2) := by decide +kernel
theorem dX7_reckon_9 : decode cX7_reckon 9 = .ok (.ireturn, 1) := by decide +kernel
theorem dX7_reckon_10 : decode cX7_reckon 10 = .ok (.iload 5, 2) := by decide +kernel
theorem dX7_reckon_12 : decode cX7_reckon 12 = .ok (.ifCond .lt 9, 3) := by decide +kernel
theorem dX7_reckon_15 : decode cX7_reckon 15 = .ok (.iload 5, 2) := by decide +kernel
theorem dX7_reckon_17 : decode cX7_reckon 17 = .ok (.iconst 2, 1) := by decide +kernel
theorem dX7_reckon_18 : decode cX7_reckon 18 = .ok (.if_icmp .le 6, 3) := by decide +kernel
theorem dX7_reckon_21 : decode cX7_reckon 21 = .ok (.bipush (-3), 2) := by decide +kernel
theorem dX7_reckon_23 : decode cX7_reckon 23 = .ok (.ireturn, 1) := by decide +kernel
theorem dX7_reckon_24 : decode cX7_reckon 24 = .ok (.aload_n 0, 1) := by decide +kernel
theorem dX7_reckon_25 : decode cX7_reckon 25 = .ok (.getfield 59, 3) := by decide +kernel
theorem dX7_reckon_28 : decode cX7_reckon 28 = .ok (.iload_n 1, 1) := by decide +kernel
theorem dX7_reckon_29 : decode cX7_reckon 29 = .ok (.aaload, 1) := by decide +kernel
theorem dX7_reckon_30 : decode cX7_reckon 30 = .ok (.astore 6, 2) := by decide +kernel
theorem dX7_reckon_32 : decode cX7_reckon 32 = .ok (.aload 6, 2) := by decide +kernel
theorem dX7_reckon_34 : decode cX7_reckon 34 = .ok (.iload_n 2, 1) := by decide +kernel
theorem dX7_reckon_35 : decode cX7_reckon 35 = .ok (.iload_n 3, 1) := by decide +kernel
theorem dX7_reckon_36 : decode cX7_reckon 36 = .ok (.iload 4, 2) := by decide +kernel
theorem dX7_reckon_38 : decode cX7_reckon 38 = .ok (.invokevirtual 261, 3) := by decide +kernel
theorem dX7_reckon_41 : decode cX7_reckon 41 = .ok (.istore 7, 2) := by decide +kernel
theorem dX7_reckon_43 : decode cX7_reckon 43 = .ok (.iload 7, 2) := by decide +kernel
theorem dX7_reckon_45 : decode cX7_reckon 45 = .ok (.ifCond .eq 6, 3) := by decide +kernel
theorem dX7_reckon_48 : decode cX7_reckon 48 = .ok (.iload 7, 2) := by decide +kernel
theorem dX7_reckon_50 : decode cX7_reckon 50 = .ok (.ireturn, 1) := by decide +kernel
theorem dX7_reckon_51 : decode cX7_reckon 51 = .ok (.aload_n 0, 1) := by decide +kernel
theorem dX7_reckon_52 : decode cX7_reckon 52 = .ok (.aload 6, 2) := by decide +kernel
theorem dX7_reckon_54 : decode cX7_reckon 54 = .ok (.iload_n 3, 1) := by decide +kernel
theorem dX7_reckon_55 : decode cX7_reckon 55 = .ok (.iload 4, 2) := by decide +kernel
theorem dX7_reckon_57 : decode cX7_reckon 57 = .ok (.iload 5, 2) := by decide +kernel
theorem dX7_reckon_59 : decode cX7_reckon 59 = .ok (.invokevirtual 265, 3) := by decide +kernel
theorem dX7_reckon_62 : decode cX7_reckon 62 = .ok (.aload_n 0, 1) := by decide +kernel
theorem dX7_reckon_63 : decode cX7_reckon 63 = .ok (.getfield 66, 3) := by decide +kernel
theorem dX7_reckon_66 : decode cX7_reckon 66 = .ok (.getfield 143, 3) := by decide +kernel
theorem dX7_reckon_69 : decode cX7_reckon 69 = .ok (.aload_n 0, 1) := by decide +kernel
theorem dX7_reckon_70 : decode cX7_reckon 70 = .ok (.getfield 66, 3) := by decide +kernel
theorem dX7_reckon_73 : decode cX7_reckon 73 = .ok (.getfield 147, 3) := by decide +kernel
theorem dX7_reckon_76 : decode cX7_reckon 76 = .ok (.invokestatic 243, 3) := by decide +kernel
theorem dX7_reckon_79 : decode cX7_reckon 79 = .ok (.ifCond .ne 6, 3) := by decide +kernel
theorem dX7_reckon_82 : decode cX7_reckon 82 = .ok (.bipush (-4), 2) := by decide +kernel
theorem dX7_reckon_84 : decode cX7_reckon 84 = .ok (.ireturn, 1) := by decide +kernel
theorem dX7_reckon_85 : decode cX7_reckon 85 = .ok (.aload 6, 2) := by decide +kernel
theorem dX7_reckon_87 : decode cX7_reckon 87 = .ok (.iload_n 2, 1) := by decide +kernel
theorem dX7_reckon_88 : decode cX7_reckon 88 = .ok (.aload_n 0, 1) := by decide +kernel
theorem dX7_reckon_89 : decode cX7_reckon 89 = .ok (.getfield 66, 3) := by decide +kernel
theorem dX7_reckon_92 : decode cX7_reckon 92 = .ok (.invokevirtual 269, 3) := by decide +kernel
theorem dX7_reckon_95 : decode cX7_reckon 95 = .ok (.iconst 1, 1) := by decide +kernel
theorem dX7_reckon_96 : decode cX7_reckon 96 = .ok (.ireturn, 1) := by decide +kernel
set_option maxRecDepth 20000 in
theorem ggX7_copy_X7_isSlate : GoodIn wsX7_copy wsX7_isSlate := goodIn_r _ [6] (by decide +kernel) (by decide +kernel)
set_option maxRecDepth 20000 in
theorem gX7_copy_X7_isSlate : GoodIn wsX7_copy (va_wsS RX7 235 yX7_isSlate wsX7_isSlate) := goodIn_app (goodIn_of _ (by decide +kernel)) ggX7_copy_X7_isSlate
set_option maxRecDepth 20000 in
theorem ggX7_copy_X5_isMissing : GoodIn wsX7_copy wsX5_isMissing := goodIn_r _ [11, 12, 41, 42, 43, 44] (by decide +kernel) (by decide +kernel)
set_option maxRecDepth 20000 in
theorem gX7_copy_X5_isMissing : GoodIn wsX7_copy (wsV RX7 273 RX5 yX5_isMissing wsX5_isMissing) := goodIn_app (goodIn_of _ (by decide +kernel)) ggX7_copy_X5_isMissing
set_option maxRecDepth 20000 in
theorem ggX7_copy_X5_hasRow : GoodIn wsX7_copy wsX5_hasRow := goodIn_r _ [16, 17, 41, 42, 43, 44] (by decide +kernel) (by decide +kernel)
set_option maxRecDepth 20000 in
theorem gX7_copy_X5_hasRow : GoodIn wsX7_copy (wsV RX7 280 RX5 yX5_hasRow wsX5_hasRow) := goodIn_app (goodIn_of _ (by decide +kernel)) ggX7_copy_X5_hasRow
set_option maxRecDepth 20000 in
theorem ggX7_copy_X5_copyTo : GoodIn wsX7_copy wsX5_copyTo := goodIn_r _ [21, 22, 23, 24, 25, 26, 27, 41, 42, 43, 44] (by decide +kernel) (by decide +kernel)
set_option maxRecDepth 20000 in
theorem gX7_copy_X5_copyTo : GoodIn wsX7_copy (wsV RX7 283 RX5 yX5_copyTo wsX5_copyTo) := goodIn_app (goodIn_of _ (by decide +kernel)) ggX7_copy_X5_copyTo
theorem dX7_copy_0 : decode cX7_copy 0 = .ok (.iload_n 1, 1) := by decide +kernel
theorem dX7_copy_1 : decode cX7_copy 1 = .ok (.invokestatic 235, 3) := by decide +kernel
theorem dX7_copy_4 : decode cX7_copy 4 = .ok (.ifCond .eq 10, 3) := by decide +kernel
theorem dX7_copy_7 : decode cX7_copy 7 = .ok (.iload_n 3, 1) := by decide +kernel
theorem dX7_copy_8 : decode cX7_copy 8 = .ok (.invokestatic 235, 3) := by decide +kernel
theorem dX7_copy_11 : decode cX7_copy 11 = .ok (.ifCond .ne 6, 3) := by decide +kernel
theorem dX7_copy_14 : decode cX7_copy 14 = .ok (.bipush (-2), 2) := by decide +kernel
theorem dX7_copy_16 : decode cX7_copy 16 = .ok (.ireturn, 1) := by decide +kernel
theorem dX7_copy_17 : decode cX7_copy 17 = .ok (.aload_n 0, 1) := by decide +kernel
theorem dX7_copy_18 : decode cX7_copy 18 = .ok (.getfield 59, 3) := by decide +kernel
theorem dX7_copy_21 : decode cX7_copy 21 = .ok (.iload_n 1, 1) := by decide +kernel
theorem dX7_copy_22 : decode cX7_copy 22 = .ok (.aaload, 1) := by decide +kernel
theorem dX7_copy_23 : decode cX7_copy 23 = .ok (.astore 6, 2) := by decide +kernel
theorem dX7_copy_25 : decode cX7_copy 25 = .ok (.aload_n 0, 1) := by decide +kernel
theorem dX7_copy_26 : decode cX7_copy 26 = .ok (.getfield 59, 3) := by decide +kernel
theorem dX7_copy_29 : decode cX7_copy 29 = .ok (.iload_n 3, 1) := by decide +kernel
theorem dX7_copy_30 : decode cX7_copy 30 = .ok (.aaload, 1) := by decide +kernel
theorem dX7_copy_31 : decode cX7_copy 31 = .ok (.astore 7, 2) := by decide +kernel
theorem dX7_copy_33 : decode cX7_copy 33 = .ok (.aload 6, 2) := by decide +kernel
theorem dX7_copy_35 : decode cX7_copy 35 = .ok (.invokevirtual 273, 3) := by decide +kernel
theorem dX7_copy_38 : decode cX7_copy 38 = .ok (.ifCond .ne 11, 3) := by decide +kernel
theorem dX7_copy_41 : decode cX7_copy 41 = .ok (.aload 7, 2) := by decide +kernel
theorem dX7_copy_43 : decode cX7_copy 43 = .ok (.invokevirtual 273, 3) := by decide +kernel
theorem dX7_copy_46 : decode cX7_copy 46 = .ok (.ifCond .eq 6, 3) := by decide +kernel
theorem dX7_copy_49 : decode cX7_copy 49 = .ok (.bipush (-11), 2) := by decide +kernel
theorem dX7_copy_51 : decode cX7_copy 51 = .ok (.ireturn, 1) := by decide +kernel
theorem dX7_copy_52 : decode cX7_copy 52 = .ok (.aload 6, 2) := by decide +kernel
theorem dX7_copy_54 : decode cX7_copy 54 = .ok (.getfield 277, 3) := by decide +kernel
theorem dX7_copy_57 : decode cX7_copy 57 = .ok (.aload 7, 2) := by decide +kernel
theorem dX7_copy_59 : decode cX7_copy 59 = .ok (.getfield 277, 3) := by decide +kernel
theorem dX7_copy_62 : decode cX7_copy 62 = .ok (.if_icmp .eq 6, 3) := by decide +kernel
theorem dX7_copy_65 : decode cX7_copy 65 = .ok (.bipush (-13), 2) := by decide +kernel
theorem dX7_copy_67 : decode cX7_copy 67 = .ok (.ireturn, 1) := by decide +kernel
theorem dX7_copy_68 : decode cX7_copy 68 = .ok (.aload 6, 2) := by decide +kernel
theorem dX7_copy_70 : decode cX7_copy 70 = .ok (.iload_n 2, 1) := by decide +kernel
theorem dX7_copy_71 : decode cX7_copy 71 = .ok (.iload 5, 2) := by decide +kernel
theorem dX7_copy_73 : decode cX7_copy 73 = .ok (.invokevirtual 280, 3) := by decide +kernel
theorem dX7_copy_76 : decode cX7_copy 76 = .ok (.ifCond .eq 15, 3) := by decide +kernel
theorem dX7_copy_79 : decode cX7_copy 79 = .ok (.aload 7, 2) := by decide +kernel
theorem dX7_copy_81 : decode cX7_copy 81 = .ok (.iload 4, 2) := by decide +kernel
theorem dX7_copy_83 : decode cX7_copy 83 = .ok (.iload 5, 2) := by decide +kernel
theorem dX7_copy_85 : decode cX7_copy 85 = .ok (.invokevirtual 280, 3) := by decide +kernel
theorem dX7_copy_88 : decode cX7_copy 88 = .ok (.ifCond .ne 6, 3) := by decide +kernel
theorem dX7_copy_91 : decode cX7_copy 91 = .ok (.bipush (-14), 2) := by decide +kernel
theorem dX7_copy_93 : decode cX7_copy 93 = .ok (.ireturn, 1) := by decide +kernel
theorem dX7_copy_94 : decode cX7_copy 94 = .ok (.aload 6, 2) := by decide +kernel
theorem dX7_copy_96 : decode cX7_copy 96 = .ok (.aload 7, 2) := by decide +kernel
theorem dX7_copy_98 : decode cX7_copy 98 = .ok (.iload_n 2, 1) := by decide +kernel
theorem dX7_copy_99 : decode cX7_copy 99 = .ok (.iload 4, 2) := by decide +kernel
theorem dX7_copy_101 : decode cX7_copy 101 = .ok (.iload 5, 2) := by decide +kernel
theorem dX7_copy_103 : decode cX7_copy 103 = .ok (.invokevirtual 283, 3) := by decide +kernel
theorem dX7_copy_106 : decode cX7_copy 106 = .ok (.iload 5, 2) := by decide +kernel
theorem dX7_copy_108 : decode cX7_copy 108 = .ok (.ireturn, 1) := by decide +kernel
set_option maxRecDepth 20000 in
theorem ggX7_drop_X7_isSlate : GoodIn wsX7_drop wsX7_isSlate := goodIn_r _ [6] (by decide +kernel) (by decide +kernel)
set_option maxRecDepth 20000 in
theorem gX7_drop_X7_isSlate : GoodIn wsX7_drop (va_wsS RX7 235 yX7_isSlate wsX7_isSlate) := goodIn_app (goodIn_of _ (by decide +kernel)) ggX7_drop_X7_isSlate
set_option maxRecDepth 20000 in
theorem ggX7_drop_X5_isMissing : GoodIn wsX7_drop wsX5_isMissing := goodIn_r _ [11, 12, 31, 32, 33, 34] (by decide +kernel) (by decide +kernel)
set_option maxRecDepth 20000 in
theorem gX7_drop_X5_isMissing : GoodIn wsX7_drop (wsV RX7 273 RX5 yX5_isMissing wsX5_isMissing) := goodIn_app (goodIn_of _ (by decide +kernel)) ggX7_drop_X5_isMissing
set_option maxRecDepth 20000 in
theorem ggX7_drop_X5_setMissing : GoodIn wsX7_drop wsX5_setMissing := goodIn_r _ [16, 12, 17, 31, 32, 33, 34] (by decide +kernel) (by decide +kernel)
set_option maxRecDepth 20000 in
theorem gX7_drop_X5_setMissing : GoodIn wsX7_drop (wsV RX7 287 RX5 yX5_setMissing wsX5_setMissing) := goodIn_app (goodIn_of _ (by decide +kernel)) ggX7_drop_X5_setMissing
theorem dX7_drop_0 : decode cX7_drop 0 = .ok (.iload_n 1, 1) := by decide +kernel
theorem dX7_drop_1 : decode cX7_drop 1 = .ok (.invokestatic 235, 3) := by decide +kernel
theorem dX7_drop_4 : decode cX7_drop 4 = .ok (.ifCond .ne 6, 3) := by decide +kernel
theorem dX7_drop_7 : decode cX7_drop 7 = .ok (.bipush (-2), 2) := by decide +kernel
theorem dX7_drop_9 : decode cX7_drop 9 = .ok (.ireturn, 1) := by decide +kernel
theorem dX7_drop_10 : decode cX7_drop 10 = .ok (.aload_n 0, 1) := by decide +kernel
theorem dX7_drop_11 : decode cX7_drop 11 = .ok (.getfield 59, 3) := by decide +kernel
theorem dX7_drop_14 : decode cX7_drop 14 = .ok (.iload_n 1, 1) := by decide +kernel
theorem dX7_drop_15 : decode cX7_drop 15 = .ok (.aaload, 1) := by decide +kernel
theorem dX7_drop_16 : decode cX7_drop 16 = .ok (.invokevirtual 273, 3) := by decide +kernel
theorem dX7_drop_19 : decode cX7_drop 19 = .ok (.ifCond .eq 6, 3) := by decide +kernel
theorem dX7_drop_22 : decode cX7_drop 22 = .ok (.bipush (-11), 2) := by decide +kernel
theorem dX7_drop_24 : decode cX7_drop 24 = .ok (.ireturn, 1) := by decide +kernel
theorem dX7_drop_25 : decode cX7_drop 25 = .ok (.aload_n 0, 1) := by decide +kernel
theorem dX7_drop_26 : decode cX7_drop 26 = .ok (.getfield 59, 3) := by decide +kernel
theorem dX7_drop_29 : decode cX7_drop 29 = .ok (.iload_n 1, 1) := by decide +kernel
theorem dX7_drop_30 : decode cX7_drop 30 = .ok (.aaload, 1) := by decide +kernel
theorem dX7_drop_31 : decode cX7_drop 31 = .ok (.getfield 286, 3) := by decide +kernel
theorem dX7_drop_34 : decode cX7_drop 34 = .ok (.istore_n 2, 1) := by decide +kernel
theorem dX7_drop_35 : decode cX7_drop 35 = .ok (.aload_n 0, 1) := by decide +kernel
theorem dX7_drop_36 : decode cX7_drop 36 = .ok (.getfield 59, 3) := by decide +kernel
theorem dX7_drop_39 : decode cX7_drop 39 = .ok (.iload_n 1, 1) := by decide +kernel
theorem dX7_drop_40 : decode cX7_drop 40 = .ok (.aaload, 1) := by decide +kernel
theorem dX7_drop_41 : decode cX7_drop 41 = .ok (.invokevirtual 287, 3) := by decide +kernel
theorem dX7_drop_44 : decode cX7_drop 44 = .ok (.iload_n 2, 1) := by decide +kernel
theorem dX7_drop_45 : decode cX7_drop 45 = .ok (.ireturn, 1) := by decide +kernel
set_option maxRecDepth 20000 in
theorem ggX7_count_X3_leechesOn : GoodIn wsX7_count wsX3_leechesOn := goodIn_r _ [17, 18, 19, 55, 56, 57, 58, 59, 60, 61, 62] (by decide +kernel) (by decide +kernel)
set_option maxRecDepth 20000 in
theorem gX7_count_X3_leechesOn : GoodIn wsX7_count (wsV RX7 135 RX3 yX3_leechesOn wsX3_leechesOn) := goodIn_app (goodIn_of _ (by decide +kernel)) ggX7_count_X3_leechesOn
set_option maxRecDepth 20000 in
theorem ggX7_count_X3_known : GoodIn wsX7_count wsX3_known := goodIn_r _ [23, 24, 25, 55, 56, 57, 58, 59, 60, 61, 62] (by decide +kernel) (by decide +kernel)
set_option maxRecDepth 20000 in
theorem gX7_count_X3_known : GoodIn wsX7_count (wsV RX7 290 RX3 yX3_known wsX3_known) := goodIn_app (goodIn_of _ (by decide +kernel)) ggX7_count_X3_known
set_option maxRecDepth 20000 in
theorem ggX7_count_X7_slatesThere : GoodIn wsX7_count wsX7_slatesThere := goodIn_r _ [30, 31, 32, 33, 34, 35, 36, 37, 38, 39, 40, 41, 42, 43, 44, 45, 46, 47, 48, 49, 50, 75, 76, 77, 78] (by decide +kernel) (by decide +kernel)
set_option maxRecDepth 20000 in
theorem gX7_count_X7_slatesThere : GoodIn wsX7_count (wsV RX7 293 RX7 yX7_slatesThere wsX7_slatesThere) := goodIn_app (goodIn_of _ (by decide +kernel)) ggX7_count_X7_slatesThere
theorem dX7_count_0 : decode cX7_count 0 = .ok (.iload_n 1, 1) := by decide +kernel
theorem dX7_count_1 : decode cX7_count 1 = .ok (.tableswitch 142 0 10 #[59, 67, 75, 83, 91, 99, 108, 116, 124, 129, 134], 59) := by decide +kernel
theorem dX7_count_60 : decode cX7_count 60 = .ok (.aload_n 0, 1) := by decide +kernel
theorem dX7_count_61 : decode cX7_count 61 = .ok (.getfield 19, 3) := by decide +kernel
theorem dX7_count_64 : decode cX7_count 64 = .ok (.getfield 187, 3) := by decide +kernel
theorem dX7_count_67 : decode cX7_count 67 = .ok (.ireturn, 1) := by decide +kernel
theorem dX7_count_68 : decode cX7_count 68 = .ok (.aload_n 0, 1) := by decide +kernel
theorem dX7_count_69 : decode cX7_count 69 = .ok (.getfield 30, 3) := by decide +kernel
theorem dX7_count_72 : decode cX7_count 72 = .ok (.getfield 119, 3) := by decide +kernel
theorem dX7_count_75 : decode cX7_count 75 = .ok (.ireturn, 1) := by decide +kernel
theorem dX7_count_76 : decode cX7_count 76 = .ok (.aload_n 0, 1) := by decide +kernel
theorem dX7_count_77 : decode cX7_count 77 = .ok (.getfield 30, 3) := by decide +kernel
theorem dX7_count_80 : decode cX7_count 80 = .ok (.getfield 129, 3) := by decide +kernel
theorem dX7_count_83 : decode cX7_count 83 = .ok (.ireturn, 1) := by decide +kernel
theorem dX7_count_84 : decode cX7_count 84 = .ok (.aload_n 0, 1) := by decide +kernel
theorem dX7_count_85 : decode cX7_count 85 = .ok (.getfield 30, 3) := by decide +kernel
theorem dX7_count_88 : decode cX7_count 88 = .ok (.getfield 169, 3) := by decide +kernel
theorem dX7_count_91 : decode cX7_count 91 = .ok (.ireturn, 1) := by decide +kernel
theorem dX7_count_92 : decode cX7_count 92 = .ok (.aload_n 0, 1) := by decide +kernel
theorem dX7_count_93 : decode cX7_count 93 = .ok (.getfield 30, 3) := by decide +kernel
theorem dX7_count_96 : decode cX7_count 96 = .ok (.getfield 179, 3) := by decide +kernel
theorem dX7_count_99 : decode cX7_count 99 = .ok (.ireturn, 1) := by decide +kernel
theorem dX7_count_100 : decode cX7_count 100 = .ok (.aload_n 0, 1) := by decide +kernel
theorem dX7_count_101 : decode cX7_count 101 = .ok (.getfield 30, 3) := by decide +kernel
theorem dX7_count_104 : decode cX7_count 104 = .ok (.iconst (-1), 1) := by decide +kernel
theorem dX7_count_105 : decode cX7_count 105 = .ok (.invokevirtual 135, 3) := by decide +kernel
theorem dX7_count_108 : decode cX7_count 108 = .ok (.ireturn, 1) := by decide +kernel
theorem dX7_count_109 : decode cX7_count 109 = .ok (.aload_n 0, 1) := by decide +kernel
theorem dX7_count_110 : decode cX7_count 110 = .ok (.getfield 30, 3) := by decide +kernel
theorem dX7_count_113 : decode cX7_count 113 = .ok (.invokevirtual 290, 3) := by decide +kernel
theorem dX7_count_116 : decode cX7_count 116 = .ok (.ireturn, 1) := by decide +kernel
theorem dX7_count_117 : decode cX7_count 117 = .ok (.aload_n 0, 1) := by decide +kernel
theorem dX7_count_118 : decode cX7_count 118 = .ok (.getfield 46, 3) := by decide +kernel
theorem dX7_count_121 : decode cX7_count 121 = .ok (.getfield 100, 3) := by decide +kernel
theorem dX7_count_124 : decode cX7_count 124 = .ok (.ireturn, 1) := by decide +kernel
theorem dX7_count_125 : decode cX7_count 125 = .ok (.aload_n 0, 1) := by decide +kernel
theorem dX7_count_126 : decode cX7_count 126 = .ok (.invokevirtual 293, 3) := by decide +kernel
theorem dX7_count_129 : decode cX7_count 129 = .ok (.ireturn, 1) := by decide +kernel
theorem dX7_count_130 : decode cX7_count 130 = .ok (.aload_n 0, 1) := by decide +kernel
theorem dX7_count_131 : decode cX7_count 131 = .ok (.getfield 94, 3) := by decide +kernel
theorem dX7_count_134 : decode cX7_count 134 = .ok (.ireturn, 1) := by decide +kernel
theorem dX7_count_135 : decode cX7_count 135 = .ok (.aload_n 0, 1) := by decide +kernel
theorem dX7_count_136 : decode cX7_count 136 = .ok (.getfield 10, 3) := by decide +kernel
theorem dX7_count_139 : decode cX7_count 139 = .ok (.getfield 71, 3) := by decide +kernel
theorem dX7_count_142 : decode cX7_count 142 = .ok (.ireturn, 1) := by decide +kernel
theorem dX7_count_143 : decode cX7_count 143 = .ok (.bipush (-3), 2) := by decide +kernel
theorem dX7_count_145 : decode cX7_count 145 = .ok (.ireturn, 1) := by decide +kernel
theorem dX7_hasBit_0 : decode cX7_hasBit 0 = .ok (.iload_n 0, 1) := by decide +kernel
theorem dX7_hasBit_1 : decode cX7_hasBit 1 = .ok (.iload_n 1, 1) := by decide +kernel
theorem dX7_hasBit_2 : decode cX7_hasBit 2 = .ok (.ishr, 1) := by decide +kernel
theorem dX7_hasBit_3 : decode cX7_hasBit 3 = .ok (.iconst 1, 1) := by decide +kernel
theorem dX7_hasBit_4 : decode cX7_hasBit 4 = .ok (.iand, 1) := by decide +kernel
theorem dX7_hasBit_5 : decode cX7_hasBit 5 = .ok (.iconst 1, 1) := by decide +kernel
theorem dX7_hasBit_6 : decode cX7_hasBit 6 = .ok (.if_icmp .ne 7, 3) := by decide +kernel
theorem dX7_hasBit_9 : decode cX7_hasBit 9 = .ok (.iconst 1, 1) := by decide +kernel
theorem dX7_hasBit_10 : decode cX7_hasBit 10 = .ok (.goto 4, 3) := by decide +kernel
theorem dX7_hasBit_13 : decode cX7_hasBit 13 = .ok (.iconst 0, 1) := by decide +kernel
theorem dX7_hasBit_14 : decode cX7_hasBit 14 = .ok (.ireturn, 1) := by decide +kernel
set_option maxRecDepth 20000 in
theorem ggX7_bitsWith_X7_hasBit : GoodIn wsX7_bitsWith wsX7_hasBit := goodIn_r _ [4] (by decide +kernel) (by decide +kernel)
set_option maxRecDepth 20000 in
theorem gX7_bitsWith_X7_hasBit : GoodIn wsX7_bitsWith (va_wsS RX7 162 yX7_hasBit wsX7_hasBit) := goodIn_app (goodIn_of _ (by decide +kernel)) ggX7_bitsWith_X7_hasBit
theorem dX7_bitsWith_0 : decode cX7_bitsWith 0 = .ok (.iconst 0, 1) := by decide +kernel
theorem dX7_bitsWith_1 : decode cX7_bitsWith 1 = .ok (.istore_n 3, 1) := by decide +kernel
theorem dX7_bitsWith_2 : decode cX7_bitsWith 2 = .ok (.iconst 0, 1) := by decide +kernel
theorem dX7_bitsWith_3 : decode cX7_bitsWith 3 = .ok (.istore 4, 2) := by decide +kernel
theorem dX7_bitsWith_5 : decode cX7_bitsWith 5 = .ok (.iload 4, 2) := by decide +kernel
theorem dX7_bitsWith_7 : decode cX7_bitsWith 7 = .ok (.iload_n 1, 1) := by decide +kernel
theorem dX7_bitsWith_8 : decode cX7_bitsWith 8 = .ok (.if_icmp .ge 34, 3) := by decide +kernel
theorem dX7_bitsWith_11 : decode cX7_bitsWith 11 = .ok (.iload 4, 2) := by decide +kernel
theorem dX7_bitsWith_13 : decode cX7_bitsWith 13 = .ok (.aload_n 0, 1) := by decide +kernel
theorem dX7_bitsWith_14 : decode cX7_bitsWith 14 = .ok (.arraylength, 1) := by decide +kernel
theorem dX7_bitsWith_15 : decode cX7_bitsWith 15 = .ok (.if_icmp .ge 27, 3) := by decide +kernel
theorem dX7_bitsWith_18 : decode cX7_bitsWith 18 = .ok (.aload_n 0, 1) := by decide +kernel
theorem dX7_bitsWith_19 : decode cX7_bitsWith 19 = .ok (.iload 4, 2) := by decide +kernel
theorem dX7_bitsWith_21 : decode cX7_bitsWith 21 = .ok (.iaload, 1) := by decide +kernel
theorem dX7_bitsWith_22 : decode cX7_bitsWith 22 = .ok (.iload_n 2, 1) := by decide +kernel
theorem dX7_bitsWith_23 : decode cX7_bitsWith 23 = .ok (.invokestatic 162, 3) := by decide +kernel
theorem dX7_bitsWith_26 : decode cX7_bitsWith 26 = .ok (.ifCond .eq 10, 3) := by decide +kernel
theorem dX7_bitsWith_29 : decode cX7_bitsWith 29 = .ok (.iload_n 3, 1) := by decide +kernel
theorem dX7_bitsWith_30 : decode cX7_bitsWith 30 = .ok (.iconst 1, 1) := by decide +kernel
theorem dX7_bitsWith_31 : decode cX7_bitsWith 31 = .ok (.iload 4, 2) := by decide +kernel
theorem dX7_bitsWith_33 : decode cX7_bitsWith 33 = .ok (.ishl, 1) := by decide +kernel
theorem dX7_bitsWith_34 : decode cX7_bitsWith 34 = .ok (.ior, 1) := by decide +kernel
theorem dX7_bitsWith_35 : decode cX7_bitsWith 35 = .ok (.istore_n 3, 1) := by decide +kernel
theorem dX7_bitsWith_36 : decode cX7_bitsWith 36 = .ok (.iinc 4 1, 3) := by decide +kernel
theorem dX7_bitsWith_39 : decode cX7_bitsWith 39 = .ok (.goto (-34), 3) := by decide +kernel
theorem dX7_bitsWith_42 : decode cX7_bitsWith 42 = .ok (.iload_n 3, 1) := by decide +kernel
theorem dX7_bitsWith_43 : decode cX7_bitsWith 43 = .ok (.ireturn, 1) := by decide +kernel
set_option maxRecDepth 20000 in
theorem ggX7_setClear_X1_setLowest : GoodIn wsX7_setClear wsX1_setLowest := goodIn_r _ [10, 11, 12, 13, 14, 15, 16, 17, 18, 9, 19, 52, 53] (by decide +kernel) (by decide +kernel)
set_option maxRecDepth 20000 in
theorem gX7_setClear_X1_setLowest : GoodIn wsX7_setClear (wsV RX7 220 RX1 yX1_setLowest wsX1_setLowest) := goodIn_app (goodIn_of _ (by decide +kernel)) ggX7_setClear_X1_setLowest
set_option maxRecDepth 20000 in
theorem ggX7_setClear_J6_bitCount_0f7a4 : GoodIn wsX7_setClear wsJ6_bitCount_0f7a4 := goodIn_r _ [23, 24, 25, 26] (by decide +kernel) (by decide +kernel)
set_option maxRecDepth 20000 in
theorem gX7_setClear_J6_bitCount_0f7a4 : GoodIn wsX7_setClear (va_wsS RX7 182 yJ6_bitCount_0f7a4 wsJ6_bitCount_0f7a4) := goodIn_app (goodIn_of _ (by decide +kernel)) ggX7_setClear_J6_bitCount_0f7a4
theorem dX7_setClear_0 : decode cX7_setClear 0 = .ok (.aload_n 0, 1) := by decide +kernel
theorem dX7_setClear_1 : decode cX7_setClear 1 = .ok (.getfield 19, 3) := by decide +kernel
theorem dX7_setClear_4 : decode cX7_setClear 4 = .ok (.getfield 187, 3) := by decide +kernel
theorem dX7_setClear_7 : decode cX7_setClear 7 = .ok (.ifCond .ne 15, 3) := by decide +kernel
theorem dX7_setClear_10 : decode cX7_setClear 10 = .ok (.aload_n 0, 1) := by decide +kernel
theorem dX7_setClear_11 : decode cX7_setClear 11 = .ok (.getfield 66, 3) := by decide +kernel
theorem dX7_setClear_14 : decode cX7_setClear 14 = .ok (.lconst 1, 1) := by decide +kernel
theorem dX7_setClear_15 : decode cX7_setClear 15 = .ok (.lconst 1, 1) := by decide +kernel
theorem dX7_setClear_16 : decode cX7_setClear 16 = .ok (.invokevirtual 220, 3) := by decide +kernel
theorem dX7_setClear_19 : decode cX7_setClear 19 = .ok (.goto 39, 3) := by decide +kernel
theorem dX7_setClear_22 : decode cX7_setClear 22 = .ok (.aload_n 0, 1) := by decide +kernel
theorem dX7_setClear_23 : decode cX7_setClear 23 = .ok (.getfield 66, 3) := by decide +kernel
theorem dX7_setClear_26 : decode cX7_setClear 26 = .ok (.aload_n 0, 1) := by decide +kernel
theorem dX7_setClear_27 : decode cX7_setClear 27 = .ok (.getfield 19, 3) := by decide +kernel
theorem dX7_setClear_30 : decode cX7_setClear 30 = .ok (.getfield 187, 3) := by decide +kernel
theorem dX7_setClear_33 : decode cX7_setClear 33 = .ok (.aload_n 0, 1) := by decide +kernel
theorem dX7_setClear_34 : decode cX7_setClear 34 = .ok (.getfield 30, 3) := by decide +kernel
theorem dX7_setClear_37 : decode cX7_setClear 37 = .ok (.getfield 116, 3) := by decide +kernel
theorem dX7_setClear_40 : decode cX7_setClear 40 = .ok (.iload_n 1, 1) := by decide +kernel
theorem dX7_setClear_41 : decode cX7_setClear 41 = .ok (.iaload, 1) := by decide +kernel
theorem dX7_setClear_42 : decode cX7_setClear 42 = .ok (.invokestatic 182, 3) := by decide +kernel
theorem dX7_setClear_45 : decode cX7_setClear 45 = .ok (.isub, 1) := by decide +kernel
theorem dX7_setClear_46 : decode cX7_setClear 46 = .ok (.i2l, 1) := by decide +kernel
theorem dX7_setClear_47 : decode cX7_setClear 47 = .ok (.aload_n 0, 1) := by decide +kernel
theorem dX7_setClear_48 : decode cX7_setClear 48 = .ok (.getfield 19, 3) := by decide +kernel
theorem dX7_setClear_51 : decode cX7_setClear 51 = .ok (.getfield 187, 3) := by decide +kernel
theorem dX7_setClear_54 : decode cX7_setClear 54 = .ok (.i2l, 1) := by decide +kernel
theorem dX7_setClear_55 : decode cX7_setClear 55 = .ok (.invokevirtual 220, 3) := by decide +kernel
theorem dX7_setClear_58 : decode cX7_setClear 58 = .ok (.return_, 1) := by decide +kernel
set_option maxRecDepth 20000 in
theorem ggX7_remember_X3_setAs : GoodIn wsX7_remember wsX3_setAs := goodIn_r _ [8, 9, 10, 11, 12, 13, 14, 15, 16, 17, 18, 19, 20, 34, 35, 36, 37, 38, 39, 40, 41] (by decide +kernel) (by decide +kernel)
set_option maxRecDepth 20000 in
theorem gX7_remember_X3_setAs : GoodIn wsX7_remember (wsV RX7 91 RX3 yX3_setAs wsX3_setAs) := goodIn_app (goodIn_of _ (by decide +kernel)) ggX7_remember_X3_setAs
theorem dX7_remember_0 : decode cX7_remember 0 = .ok (.aload_n 0, 1) := by decide +kernel
theorem dX7_remember_1 : decode cX7_remember 1 = .ok (.getfield 94, 3) := by decide +kernel
theorem dX7_remember_4 : decode cX7_remember 4 = .ok (.bipush 8, 2) := by decide +kernel
theorem dX7_remember_6 : decode cX7_remember 6 = .ok (.if_icmp .ne 56, 3) := by decide +kernel
theorem dX7_remember_9 : decode cX7_remember 9 = .ok (.aload_n 0, 1) := by decide +kernel
theorem dX7_remember_10 : decode cX7_remember 10 = .ok (.getfield 36, 3) := by decide +kernel
theorem dX7_remember_13 : decode cX7_remember 13 = .ok (.iconst 0, 1) := by decide +kernel
theorem dX7_remember_14 : decode cX7_remember 14 = .ok (.aaload, 1) := by decide +kernel
theorem dX7_remember_15 : decode cX7_remember 15 = .ok (.astore_n 1, 1) := by decide +kernel
theorem dX7_remember_16 : decode cX7_remember 16 = .ok (.iconst 1, 1) := by decide +kernel
theorem dX7_remember_17 : decode cX7_remember 17 = .ok (.istore_n 2, 1) := by decide +kernel
theorem dX7_remember_18 : decode cX7_remember 18 = .ok (.iload_n 2, 1) := by decide +kernel
theorem dX7_remember_19 : decode cX7_remember 19 = .ok (.bipush 8, 2) := by decide +kernel
theorem dX7_remember_21 : decode cX7_remember 21 = .ok (.if_icmp .ge 23, 3) := by decide +kernel
theorem dX7_remember_24 : decode cX7_remember 24 = .ok (.aload_n 0, 1) := by decide +kernel
theorem dX7_remember_25 : decode cX7_remember 25 = .ok (.getfield 36, 3) := by decide +kernel
theorem dX7_remember_28 : decode cX7_remember 28 = .ok (.iload_n 2, 1) := by decide +kernel
theorem dX7_remember_29 : decode cX7_remember 29 = .ok (.iconst 1, 1) := by decide +kernel
theorem dX7_remember_30 : decode cX7_remember 30 = .ok (.isub, 1) := by decide +kernel
theorem dX7_remember_31 : decode cX7_remember 31 = .ok (.aload_n 0, 1) := by decide +kernel
theorem dX7_remember_32 : decode cX7_remember 32 = .ok (.getfield 36, 3) := by decide +kernel
theorem dX7_remember_35 : decode cX7_remember 35 = .ok (.iload_n 2, 1) := by decide +kernel
theorem dX7_remember_36 : decode cX7_remember 36 = .ok (.aaload, 1) := by decide +kernel
theorem dX7_remember_37 : decode cX7_remember 37 = .ok (.aastore, 1) := by decide +kernel
theorem dX7_remember_38 : decode cX7_remember 38 = .ok (.iinc 2 1, 3) := by decide +kernel
theorem dX7_remember_41 : decode cX7_remember 41 = .ok (.goto (-23), 3) := by decide +kernel
theorem dX7_remember_44 : decode cX7_remember 44 = .ok (.aload_n 0, 1) := by decide +kernel
theorem dX7_remember_45 : decode cX7_remember 45 = .ok (.getfield 36, 3) := by decide +kernel
theorem dX7_remember_48 : decode cX7_remember 48 = .ok (.bipush 7, 2) := by decide +kernel
theorem dX7_remember_50 : decode cX7_remember 50 = .ok (.aload_n 1, 1) := by decide +kernel
theorem dX7_remember_51 : decode cX7_remember 51 = .ok (.aastore, 1) := by decide +kernel
theorem dX7_remember_52 : decode cX7_remember 52 = .ok (.aload_n 0, 1) := by decide +kernel
theorem dX7_remember_53 : decode cX7_remember 53 = .ok (.dup, 1) := by decide +kernel
theorem dX7_remember_54 : decode cX7_remember 54 = .ok (.getfield 94, 3) := by decide +kernel
theorem dX7_remember_57 : decode cX7_remember 57 = .ok (.iconst 1, 1) := by decide +kernel
theorem dX7_remember_58 : decode cX7_remember 58 = .ok (.isub, 1) := by decide +kernel
theorem dX7_remember_59 : decode cX7_remember 59 = .ok (.putfield 94, 3) := by decide +kernel
theorem dX7_remember_62 : decode cX7_remember 62 = .ok (.aload_n 0, 1) := by decide +kernel
theorem dX7_remember_63 : decode cX7_remember 63 = .ok (.getfield 36, 3) := by decide +kernel
theorem dX7_remember_66 : decode cX7_remember 66 = .ok (.aload_n 0, 1) := by decide +kernel
theorem dX7_remember_67 : decode cX7_remember 67 = .ok (.getfield 94, 3) := by decide +kernel
theorem dX7_remember_70 : decode cX7_remember 70 = .ok (.aaload, 1) := by decide +kernel
theorem dX7_remember_71 : decode cX7_remember 71 = .ok (.aload_n 0, 1) := by decide +kernel
theorem dX7_remember_72 : decode cX7_remember 72 = .ok (.getfield 30, 3) := by decide +kernel
theorem dX7_remember_75 : decode cX7_remember 75 = .ok (.invokevirtual 91, 3) := by decide +kernel
theorem dX7_remember_78 : decode cX7_remember 78 = .ok (.aload_n 0, 1) := by decide +kernel
theorem dX7_remember_79 : decode cX7_remember 79 = .ok (.dup, 1) := by decide +kernel
theorem dX7_remember_80 : decode cX7_remember 80 = .ok (.getfield 94, 3) := by decide +kernel
theorem dX7_remember_83 : decode cX7_remember 83 = .ok (.iconst 1, 1) := by decide +kernel
theorem dX7_remember_84 : decode cX7_remember 84 = .ok (.iadd, 1) := by decide +kernel
theorem dX7_remember_85 : decode cX7_remember 85 = .ok (.putfield 94, 3) := by decide +kernel
theorem dX7_remember_88 : decode cX7_remember 88 = .ok (.return_, 1) := by decide +kernel
theorem dX7_isWanted_0 : decode cX7_isWanted 0 = .ok (.iload_n 0, 1) := by decide +kernel
theorem dX7_isWanted_1 : decode cX7_isWanted 1 = .ok (.iload_n 1, 1) := by decide +kernel
theorem dX7_isWanted_2 : decode cX7_isWanted 2 = .ok (.iand, 1) := by decide +kernel
theorem dX7_isWanted_3 : decode cX7_isWanted 3 = .ok (.ifCond .ne 15, 3) := by decide +kernel
theorem dX7_isWanted_6 : decode cX7_isWanted 6 = .ok (.iload_n 2, 1) := by decide +kernel
theorem dX7_isWanted_7 : decode cX7_isWanted 7 = .ok (.iload_n 0, 1) := by decide +kernel
theorem dX7_isWanted_8 : decode cX7_isWanted 8 = .ok (.iconst (-1), 1) := by decide +kernel
theorem dX7_isWanted_9 : decode cX7_isWanted 9 = .ok (.ixor, 1) := by decide +kernel
theorem dX7_isWanted_10 : decode cX7_isWanted 10 = .ok (.iand, 1) := by decide +kernel
theorem dX7_isWanted_11 : decode cX7_isWanted 11 = .ok (.ifCond .ne 7, 3) := by decide +kernel
theorem dX7_isWanted_14 : decode cX7_isWanted 14 = .ok (.iconst 1, 1) := by decide +kernel
theorem dX7_isWanted_15 : decode cX7_isWanted 15 = .ok (.goto 4, 3) := by decide +kernel
theorem dX7_isWanted_18 : decode cX7_isWanted 18 = .ok (.iconst 0, 1) := by decide +kernel
theorem dX7_isWanted_19 : decode cX7_isWanted 19 = .ok (.ireturn, 1) := by decide +kernel
set_option maxRecDepth 20000 in
theorem ggX7_knownAfterAlone_X3_setAlone : GoodIn wsX7_knownAfterAlone wsX3_setAlone := goodIn_r _ [8, 9, 10, 11, 12, 7, 13, 14, 15, 16, 17, 18, 19, 20, 21, 22, 23, 24, 25, 26, 27, 28, 76, 77, 78, 79, 80, 81, 82, 83] (by decide +kernel) (by decide +kernel)
set_option maxRecDepth 20000 in
theorem gX7_knownAfterAlone_X3_setAlone : GoodIn wsX7_knownAfterAlone (wsV RX7 296 RX3 yX3_setAlone wsX3_setAlone) := goodIn_app (goodIn_of _ (by decide +kernel)) ggX7_knownAfterAlone_X3_setAlone
set_option maxRecDepth 20000 in
theorem ggX7_knownAfterAlone_X3_pass : GoodIn wsX7_knownAfterAlone wsX3_pass := goodIn_r _ [32, 15, 9, 17, 33, 34, 35, 7, 36, 14, 37, 38, 39, 40, 27, 22, 28, 41, 42, 43, 44, 45, 46, 47, 48, 49, 50, 51, 52, 53, 54, 55, 56, 57, 58, 59, 60, 61, 62, 76, 77, 78, 79, 80, 81, 82, 83, 84, 85, 86, 87] (by decide +kernel) (by decide +kernel)
set_option maxRecDepth 20000 in
theorem gX7_knownAfterAlone_X3_pass : GoodIn wsX7_knownAfterAlone (wsV RX7 175 RX3 yX3_pass wsX3_pass) := goodIn_app (goodIn_of _ (by decide +kernel)) ggX7_knownAfterAlone_X3_pass
theorem dX7_knownAfterAlone_0 : decode cX7_knownAfterAlone 0 = .ok (.aload_n 0, 1) := by decide +kernel
theorem dX7_knownAfterAlone_1 : decode cX7_knownAfterAlone 1 = .ok (.getfield 33, 3) := by decide +kernel
theorem dX7_knownAfterAlone_4 : decode cX7_knownAfterAlone 4 = .ok (.iload_n 1, 1) := by decide +kernel
theorem dX7_knownAfterAlone_5 : decode cX7_knownAfterAlone 5 = .ok (.iload_n 2, 1) := by decide +kernel
theorem dX7_knownAfterAlone_6 : decode cX7_knownAfterAlone 6 = .ok (.invokevirtual 296, 3) := by decide +kernel
theorem dX7_knownAfterAlone_9 : decode cX7_knownAfterAlone 9 = .ok (.aload_n 0, 1) := by decide +kernel
theorem dX7_knownAfterAlone_10 : decode cX7_knownAfterAlone 10 = .ok (.getfield 33, 3) := by decide +kernel
theorem dX7_knownAfterAlone_13 : decode cX7_knownAfterAlone 13 = .ok (.aload_n 0, 1) := by decide +kernel
theorem dX7_knownAfterAlone_14 : decode cX7_knownAfterAlone 14 = .ok (.getfield 19, 3) := by decide +kernel
theorem dX7_knownAfterAlone_17 : decode cX7_knownAfterAlone 17 = .ok (.iload_n 3, 1) := by decide +kernel
theorem dX7_knownAfterAlone_18 : decode cX7_knownAfterAlone 18 = .ok (.invokevirtual 175, 3) := by decide +kernel
theorem dX7_knownAfterAlone_21 : decode cX7_knownAfterAlone 21 = .ok (.aload_n 0, 1) := by decide +kernel
theorem dX7_knownAfterAlone_22 : decode cX7_knownAfterAlone 22 = .ok (.getfield 33, 3) := by decide +kernel
theorem dX7_knownAfterAlone_25 : decode cX7_knownAfterAlone 25 = .ok (.getfield 116, 3) := by decide +kernel
theorem dX7_knownAfterAlone_28 : decode cX7_knownAfterAlone 28 = .ok (.iconst 0, 1) := by decide +kernel
theorem dX7_knownAfterAlone_29 : decode cX7_knownAfterAlone 29 = .ok (.iaload, 1) := by decide +kernel
theorem dX7_knownAfterAlone_30 : decode cX7_knownAfterAlone 30 = .ok (.ireturn, 1) := by decide +kernel
set_option maxRecDepth 20000 in
theorem ggX7_minutesAlone_X3_setAlone : GoodIn wsX7_minutesAlone wsX3_setAlone := goodIn_r _ [8, 9, 10, 11, 12, 7, 13, 14, 15, 16, 17, 18, 19, 20, 21, 22, 23, 24, 25, 26, 27, 28, 80, 81, 82, 83, 84, 85, 86, 87] (by decide +kernel) (by decide +kernel)
set_option maxRecDepth 20000 in
theorem gX7_minutesAlone_X3_setAlone : GoodIn wsX7_minutesAlone (wsV RX7 296 RX3 yX3_setAlone wsX3_setAlone) := goodIn_app (goodIn_of _ (by decide +kernel)) ggX7_minutesAlone_X3_setAlone
set_option maxRecDepth 20000 in
theorem ggX7_minutesAlone_X7_isWanted : GoodIn wsX7_minutesAlone wsX7_isWanted := goodIn_r _ [32] (by decide +kernel) (by decide +kernel)
set_option maxRecDepth 20000 in
theorem gX7_minutesAlone_X7_isWanted : GoodIn wsX7_minutesAlone (va_wsS RX7 299 yX7_isWanted wsX7_isWanted) := goodIn_app (goodIn_of _ (by decide +kernel)) ggX7_minutesAlone_X7_isWanted
set_option maxRecDepth 20000 in
theorem ggX7_minutesAlone_X3_pass : GoodIn wsX7_minutesAlone wsX3_pass := goodIn_r _ [36, 15, 9, 17, 37, 38, 39, 7, 40, 14, 41, 42, 43, 44, 27, 22, 28, 45, 46, 47, 48, 49, 50, 51, 52, 53, 54, 55, 56, 57, 58, 59, 60, 61, 62, 63, 64, 65, 66, 80, 81, 82, 83, 84, 85, 86, 87, 88, 89, 90, 91] (by decide +kernel) (by decide +kernel)
set_option maxRecDepth 20000 in
theorem gX7_minutesAlone_X3_pass : GoodIn wsX7_minutesAlone (wsV RX7 175 RX3 yX3_pass wsX3_pass) := goodIn_app (goodIn_of _ (by decide +kernel)) ggX7_minutesAlone_X3_pass
theorem dX7_minutesAlone_0 : decode cX7_minutesAlone 0 = .ok (.aload_n 0, 1) := by decide +kernel
theorem dX7_minutesAlone_1 : decode cX7_minutesAlone 1 = .ok (.getfield 33, 3) := by decide +kernel
theorem dX7_minutesAlone_4 : decode cX7_minutesAlone 4 = .ok (.iload_n 1, 1) := by decide +kernel
theorem dX7_minutesAlone_5 : decode cX7_minutesAlone 5 = .ok (.iload_n 2, 1) := by decide +kernel
theorem dX7_minutesAlone_6 : decode cX7_minutesAlone 6 = .ok (.invokevirtual 296, 3) := by decide +kernel
theorem dX7_minutesAlone_9 : decode cX7_minutesAlone 9 = .ok (.iconst 0, 1) := by decide +kernel
theorem dX7_minutesAlone_10 : decode cX7_minutesAlone 10 = .ok (.istore 5, 2) := by decide +kernel
theorem dX7_minutesAlone_12 : decode cX7_minutesAlone 12 = .ok (.iload 5, 2) := by decide +kernel
theorem dX7_minutesAlone_14 : decode cX7_minutesAlone 14 = .ok (.bipush 20, 2) := by decide +kernel
theorem dX7_minutesAlone_16 : decode cX7_minutesAlone 16 = .ok (.if_icmp .gt 42, 3) := by decide +kernel
theorem dX7_minutesAlone_19 : decode cX7_minutesAlone 19 = .ok (.aload_n 0, 1) := by decide +kernel
theorem dX7_minutesAlone_20 : decode cX7_minutesAlone 20 = .ok (.getfield 33, 3) := by decide +kernel
theorem dX7_minutesAlone_23 : decode cX7_minutesAlone 23 = .ok (.getfield 116, 3) := by decide +kernel
theorem dX7_minutesAlone_26 : decode cX7_minutesAlone 26 = .ok (.iconst 0, 1) := by decide +kernel
theorem dX7_minutesAlone_27 : decode cX7_minutesAlone 27 = .ok (.iaload, 1) := by decide +kernel
theorem dX7_minutesAlone_28 : decode cX7_minutesAlone 28 = .ok (.iload_n 3, 1) := by decide +kernel
theorem dX7_minutesAlone_29 : decode cX7_minutesAlone 29 = .ok (.iload 4, 2) := by decide +kernel
theorem dX7_minutesAlone_31 : decode cX7_minutesAlone 31 = .ok (.invokestatic 299, 3) := by decide +kernel
theorem dX7_minutesAlone_34 : decode cX7_minutesAlone 34 = .ok (.ifCond .eq 6, 3) := by decide +kernel
theorem dX7_minutesAlone_37 : decode cX7_minutesAlone 37 = .ok (.iload 5, 2) := by decide +kernel
theorem dX7_minutesAlone_39 : decode cX7_minutesAlone 39 = .ok (.ireturn, 1) := by decide +kernel
theorem dX7_minutesAlone_40 : decode cX7_minutesAlone 40 = .ok (.aload_n 0, 1) := by decide +kernel
theorem dX7_minutesAlone_41 : decode cX7_minutesAlone 41 = .ok (.getfield 33, 3) := by decide +kernel
theorem dX7_minutesAlone_44 : decode cX7_minutesAlone 44 = .ok (.aload_n 0, 1) := by decide +kernel
theorem dX7_minutesAlone_45 : decode cX7_minutesAlone 45 = .ok (.getfield 19, 3) := by decide +kernel
theorem dX7_minutesAlone_48 : decode cX7_minutesAlone 48 = .ok (.iconst 1, 1) := by decide +kernel
theorem dX7_minutesAlone_49 : decode cX7_minutesAlone 49 = .ok (.invokevirtual 175, 3) := by decide +kernel
theorem dX7_minutesAlone_52 : decode cX7_minutesAlone 52 = .ok (.iinc 5 1, 3) := by decide +kernel
theorem dX7_minutesAlone_55 : decode cX7_minutesAlone 55 = .ok (.goto (-43), 3) := by decide +kernel
theorem dX7_minutesAlone_58 : decode cX7_minutesAlone 58 = .ok (.iconst (-1), 1) := by decide +kernel
theorem dX7_minutesAlone_59 : decode cX7_minutesAlone 59 = .ok (.ireturn, 1) := by decide +kernel
set_option maxRecDepth 20000 in
theorem ggX7_rowOfKinds_X7_isWanted : GoodIn wsX7_rowOfKinds wsX7_isWanted := goodIn_r _ [4] (by decide +kernel) (by decide +kernel)
set_option maxRecDepth 20000 in
theorem gX7_rowOfKinds_X7_isWanted : GoodIn wsX7_rowOfKinds (va_wsS RX7 299 yX7_isWanted wsX7_isWanted) := goodIn_app (goodIn_of _ (by decide +kernel)) ggX7_rowOfKinds_X7_isWanted
set_option maxRecDepth 20000 in
theorem ggX7_rowOfKinds_X7_knownAfterAlone : GoodIn wsX7_rowOfKinds wsX7_knownAfterAlone := goodIn_r _ [8, 9, 10, 11, 12, 13, 14, 15, 16, 17, 18, 19, 20, 21, 22, 23, 24, 25, 26, 27, 28, 29, 30, 31, 32, 33, 34, 35, 36, 37, 38, 39, 40, 41, 42, 43, 44, 45, 46, 47, 48, 49, 50, 51, 52, 53, 54, 55, 56, 57, 58, 59, 60, 61, 62, 63, 64, 65, 66, 67, 68, 69, 70, 74, 75, 76, 77, 78, 79, 80, 81, 82, 83, 84, 85, 86, 87, 88, 89, 90, 91, 92, 93, 94, 95, 96, 97, 98] (by decide +kernel) (by decide +kernel)
set_option maxRecDepth 20000 in
theorem gX7_rowOfKinds_X7_knownAfterAlone : GoodIn wsX7_rowOfKinds (wsV RX7 303 RX7 yX7_knownAfterAlone wsX7_knownAfterAlone) := goodIn_app (goodIn_of _ (by decide +kernel)) ggX7_rowOfKinds_X7_knownAfterAlone
set_option maxRecDepth 20000 in
theorem ggX7_rowOfKinds_X7_rowOfKinds : GoodIn wsX7_rowOfKinds wsX7_rowOfKinds := goodIn_r _ [0, 1, 2, 3, 4, 5, 6, 7, 8, 9, 10, 11, 12, 13, 14, 15, 16, 17, 18, 19, 20, 21, 22, 23, 24, 25, 26, 27, 28, 29, 30, 31, 32, 33, 34, 35, 36, 37, 38, 39, 40, 41, 42, 43, 44, 45, 46, 47, 48, 49, 50, 51, 52, 53, 54, 55, 56, 57, 58, 59, 60, 61, 62, 63, 64, 65, 66, 67, 68, 69, 70, 71, 72, 73, 74, 75, 76, 77, 78, 79, 80, 81, 82, 83, 84, 85, 86, 87, 88, 89, 90, 91, 92, 93, 94, 95, 96, 97, 98] (by decide +kernel) (by decide +kernel)
set_option maxRecDepth 20000 in
theorem gX7_rowOfKinds_X7_rowOfKinds : GoodIn wsX7_rowOfKinds (wsV RX7 198 RX7 yX7_rowOfKinds wsX7_rowOfKinds) := goodIn_app (goodIn_of _ (by decide +kernel)) ggX7_rowOfKinds_X7_rowOfKinds
theorem dX7_rowOfKinds_0 : decode cX7_rowOfKinds 0 = .ok (.iload 4, 2) := by decide +kernel
theorem dX7_rowOfKinds_2 : decode cX7_rowOfKinds 2 = .ok (.ifCond .ne 18, 3) := by decide +kernel
theorem dX7_rowOfKinds_5 : decode cX7_rowOfKinds 5 = .ok (.iload_n 1, 1) := by decide +kernel
theorem dX7_rowOfKinds_6 : decode cX7_rowOfKinds 6 = .ok (.iload_n 2, 1) := by decide +kernel
theorem dX7_rowOfKinds_7 : decode cX7_rowOfKinds 7 = .ok (.iload_n 3, 1) := by decide +kernel
theorem dX7_rowOfKinds_8 : decode cX7_rowOfKinds 8 = .ok (.invokestatic 299, 3) := by decide +kernel
theorem dX7_rowOfKinds_11 : decode cX7_rowOfKinds 11 = .ok (.ifCond .eq 7, 3) := by decide +kernel
theorem dX7_rowOfKinds_14 : decode cX7_rowOfKinds 14 = .ok (.iconst 0, 1) := by decide +kernel
theorem dX7_rowOfKinds_15 : decode cX7_rowOfKinds 15 = .ok (.goto 4, 3) := by decide +kernel
theorem dX7_rowOfKinds_18 : decode cX7_rowOfKinds 18 = .ok (.iconst (-1), 1) := by decide +kernel
theorem dX7_rowOfKinds_19 : decode cX7_rowOfKinds 19 = .ok (.ireturn, 1) := by decide +kernel
theorem dX7_rowOfKinds_20 : decode cX7_rowOfKinds 20 = .ok (.iconst 0, 1) := by decide +kernel
theorem dX7_rowOfKinds_21 : decode cX7_rowOfKinds 21 = .ok (.istore 5, 2) := by decide +kernel
theorem dX7_rowOfKinds_23 : decode cX7_rowOfKinds 23 = .ok (.iload 5, 2) := by decide +kernel
theorem dX7_rowOfKinds_25 : decode cX7_rowOfKinds 25 = .ok (.iconst 5, 1) := by decide +kernel
theorem dX7_rowOfKinds_26 : decode cX7_rowOfKinds 26 = .ok (.if_icmp .ge 47, 3) := by decide +kernel
theorem dX7_rowOfKinds_29 : decode cX7_rowOfKinds 29 = .ok (.aload_n 0, 1) := by decide +kernel
theorem dX7_rowOfKinds_30 : decode cX7_rowOfKinds 30 = .ok (.aload_n 0, 1) := by decide +kernel
theorem dX7_rowOfKinds_31 : decode cX7_rowOfKinds 31 = .ok (.iload_n 1, 1) := by decide +kernel
theorem dX7_rowOfKinds_32 : decode cX7_rowOfKinds 32 = .ok (.iload 5, 2) := by decide +kernel
theorem dX7_rowOfKinds_34 : decode cX7_rowOfKinds 34 = .ok (.iconst 1, 1) := by decide +kernel
theorem dX7_rowOfKinds_35 : decode cX7_rowOfKinds 35 = .ok (.invokevirtual 303, 3) := by decide +kernel
theorem dX7_rowOfKinds_38 : decode cX7_rowOfKinds 38 = .ok (.iload_n 2, 1) := by decide +kernel
theorem dX7_rowOfKinds_39 : decode cX7_rowOfKinds 39 = .ok (.iload_n 3, 1) := by decide +kernel
theorem dX7_rowOfKinds_40 : decode cX7_rowOfKinds 40 = .ok (.iload 4, 2) := by decide +kernel
theorem dX7_rowOfKinds_42 : decode cX7_rowOfKinds 42 = .ok (.bipush 10, 2) := by decide +kernel
theorem dX7_rowOfKinds_44 : decode cX7_rowOfKinds 44 = .ok (.idiv, 1) := by decide +kernel
theorem dX7_rowOfKinds_45 : decode cX7_rowOfKinds 45 = .ok (.invokevirtual 198, 3) := by decide +kernel
theorem dX7_rowOfKinds_48 : decode cX7_rowOfKinds 48 = .ok (.istore 6, 2) := by decide +kernel
theorem dX7_rowOfKinds_50 : decode cX7_rowOfKinds 50 = .ok (.iload 6, 2) := by decide +kernel
theorem dX7_rowOfKinds_52 : decode cX7_rowOfKinds 52 = .ok (.iconst (-1), 1) := by decide +kernel
theorem dX7_rowOfKinds_53 : decode cX7_rowOfKinds 53 = .ok (.if_icmp .eq 14, 3) := by decide +kernel
theorem dX7_rowOfKinds_56 : decode cX7_rowOfKinds 56 = .ok (.iload 5, 2) := by decide +kernel
theorem dX7_rowOfKinds_58 : decode cX7_rowOfKinds 58 = .ok (.iconst 1, 1) := by decide +kernel
theorem dX7_rowOfKinds_59 : decode cX7_rowOfKinds 59 = .ok (.iadd, 1) := by decide +kernel
theorem dX7_rowOfKinds_60 : decode cX7_rowOfKinds 60 = .ok (.iload 4, 2) := by decide +kernel
theorem dX7_rowOfKinds_62 : decode cX7_rowOfKinds 62 = .ok (.imul, 1) := by decide +kernel
theorem dX7_rowOfKinds_63 : decode cX7_rowOfKinds 63 = .ok (.iload 6, 2) := by decide +kernel
theorem dX7_rowOfKinds_65 : decode cX7_rowOfKinds 65 = .ok (.iadd, 1) := by decide +kernel
theorem dX7_rowOfKinds_66 : decode cX7_rowOfKinds 66 = .ok (.ireturn, 1) := by decide +kernel
theorem dX7_rowOfKinds_67 : decode cX7_rowOfKinds 67 = .ok (.iinc 5 1, 3) := by decide +kernel
theorem dX7_rowOfKinds_70 : decode cX7_rowOfKinds 70 = .ok (.goto (-47), 3) := by decide +kernel
theorem dX7_rowOfKinds_73 : decode cX7_rowOfKinds 73 = .ok (.iconst (-1), 1) := by decide +kernel
theorem dX7_rowOfKinds_74 : decode cX7_rowOfKinds 74 = .ok (.ireturn, 1) := by decide +kernel
set_option maxRecDepth 20000 in
theorem ggX7_foretellPuts_X3_leechesOn : GoodIn wsX7_foretellPuts wsX3_leechesOn := goodIn_r _ [11, 12, 13, 91, 92, 93, 94, 95, 96, 97, 98] (by decide +kernel) (by decide +kernel)
set_option maxRecDepth 20000 in
theorem gX7_foretellPuts_X3_leechesOn : GoodIn wsX7_foretellPuts (wsV RX7 135 RX3 yX3_leechesOn wsX3_leechesOn) := goodIn_app (goodIn_of _ (by decide +kernel)) ggX7_foretellPuts_X3_leechesOn
set_option maxRecDepth 20000 in
theorem ggX7_foretellPuts_X3_setAs : GoodIn wsX7_foretellPuts wsX3_setAs := goodIn_r _ [17, 18, 12, 19, 20, 21, 22, 23, 24, 25, 26, 13, 27, 91, 92, 93, 94, 95, 96, 97, 98] (by decide +kernel) (by decide +kernel)
set_option maxRecDepth 20000 in
theorem gX7_foretellPuts_X3_setAs : GoodIn wsX7_foretellPuts (wsV RX7 91 RX3 yX3_setAs wsX3_setAs) := goodIn_app (goodIn_of _ (by decide +kernel)) ggX7_foretellPuts_X3_setAs
set_option maxRecDepth 20000 in
theorem ggX7_foretellPuts_X3_putAll : GoodIn wsX7_foretellPuts wsX3_putAll := goodIn_r _ [31, 12, 13, 32, 33, 34, 91, 92, 93, 94, 95, 96, 97, 98] (by decide +kernel) (by decide +kernel)
set_option maxRecDepth 20000 in
theorem gX7_foretellPuts_X3_putAll : GoodIn wsX7_foretellPuts (wsV RX7 306 RX3 yX3_putAll wsX3_putAll) := goodIn_app (goodIn_of _ (by decide +kernel)) ggX7_foretellPuts_X3_putAll
set_option maxRecDepth 20000 in
theorem ggX7_foretellPuts_X3_pass : GoodIn wsX7_foretellPuts wsX3_pass := goodIn_r _ [38, 12, 13, 20, 39, 40, 41, 10, 42, 18, 43, 44, 45, 46, 26, 21, 27, 47, 48, 49, 50, 51, 52, 53, 54, 55, 56, 57, 58, 59, 60, 61, 62, 63, 64, 65, 66, 67, 68, 91, 92, 93, 94, 95, 96, 97, 98, 99, 100, 101, 102] (by decide +kernel) (by decide +kernel)
set_option maxRecDepth 20000 in
theorem gX7_foretellPuts_X3_pass : GoodIn wsX7_foretellPuts (wsV RX7 175 RX3 yX3_pass wsX3_pass) := goodIn_app (goodIn_of _ (by decide +kernel)) ggX7_foretellPuts_X3_pass
theorem dX7_foretellPuts_0 : decode cX7_foretellPuts 0 = .ok (.aload_n 0, 1) := by decide +kernel
theorem dX7_foretellPuts_1 : decode cX7_foretellPuts 1 = .ok (.getfield 30, 3) := by decide +kernel
theorem dX7_foretellPuts_4 : decode cX7_foretellPuts 4 = .ok (.iconst (-1), 1) := by decide +kernel
theorem dX7_foretellPuts_5 : decode cX7_foretellPuts 5 = .ok (.invokevirtual 135, 3) := by decide +kernel
theorem dX7_foretellPuts_8 : decode cX7_foretellPuts 8 = .ok (.istore_n 3, 1) := by decide +kernel
theorem dX7_foretellPuts_9 : decode cX7_foretellPuts 9 = .ok (.iconst 0, 1) := by decide +kernel
theorem dX7_foretellPuts_10 : decode cX7_foretellPuts 10 = .ok (.istore 4, 2) := by decide +kernel
theorem dX7_foretellPuts_12 : decode cX7_foretellPuts 12 = .ok (.iload 4, 2) := by decide +kernel
theorem dX7_foretellPuts_14 : decode cX7_foretellPuts 14 = .ok (.bipush 32, 2) := by decide +kernel
theorem dX7_foretellPuts_16 : decode cX7_foretellPuts 16 = .ok (.if_icmp .ge 72, 3) := by decide +kernel
theorem dX7_foretellPuts_19 : decode cX7_foretellPuts 19 = .ok (.iload 4, 2) := by decide +kernel
theorem dX7_foretellPuts_21 : decode cX7_foretellPuts 21 = .ok (.iload_n 3, 1) := by decide +kernel
theorem dX7_foretellPuts_22 : decode cX7_foretellPuts 22 = .ok (.iconst (-1), 1) := by decide +kernel
theorem dX7_foretellPuts_23 : decode cX7_foretellPuts 23 = .ok (.ixor, 1) := by decide +kernel
theorem dX7_foretellPuts_24 : decode cX7_foretellPuts 24 = .ok (.iand, 1) := by decide +kernel
theorem dX7_foretellPuts_25 : decode cX7_foretellPuts 25 = .ok (.ifCond .ne 57, 3) := by decide +kernel
theorem dX7_foretellPuts_28 : decode cX7_foretellPuts 28 = .ok (.aload_n 0, 1) := by decide +kernel
theorem dX7_foretellPuts_29 : decode cX7_foretellPuts 29 = .ok (.getfield 33, 3) := by decide +kernel
theorem dX7_foretellPuts_32 : decode cX7_foretellPuts 32 = .ok (.aload_n 0, 1) := by decide +kernel
theorem dX7_foretellPuts_33 : decode cX7_foretellPuts 33 = .ok (.getfield 30, 3) := by decide +kernel
theorem dX7_foretellPuts_36 : decode cX7_foretellPuts 36 = .ok (.invokevirtual 91, 3) := by decide +kernel
theorem dX7_foretellPuts_39 : decode cX7_foretellPuts 39 = .ok (.aload_n 0, 1) := by decide +kernel
theorem dX7_foretellPuts_40 : decode cX7_foretellPuts 40 = .ok (.getfield 33, 3) := by decide +kernel
theorem dX7_foretellPuts_43 : decode cX7_foretellPuts 43 = .ok (.iload 4, 2) := by decide +kernel
theorem dX7_foretellPuts_45 : decode cX7_foretellPuts 45 = .ok (.iload_n 1, 1) := by decide +kernel
theorem dX7_foretellPuts_46 : decode cX7_foretellPuts 46 = .ok (.invokevirtual 306, 3) := by decide +kernel
theorem dX7_foretellPuts_49 : decode cX7_foretellPuts 49 = .ok (.aload_n 0, 1) := by decide +kernel
theorem dX7_foretellPuts_50 : decode cX7_foretellPuts 50 = .ok (.getfield 33, 3) := by decide +kernel
theorem dX7_foretellPuts_53 : decode cX7_foretellPuts 53 = .ok (.aload_n 0, 1) := by decide +kernel
theorem dX7_foretellPuts_54 : decode cX7_foretellPuts 54 = .ok (.getfield 19, 3) := by decide +kernel
theorem dX7_foretellPuts_57 : decode cX7_foretellPuts 57 = .ok (.iload_n 2, 1) := by decide +kernel
theorem dX7_foretellPuts_58 : decode cX7_foretellPuts 58 = .ok (.invokevirtual 175, 3) := by decide +kernel
theorem dX7_foretellPuts_61 : decode cX7_foretellPuts 61 = .ok (.aload_n 0, 1) := by decide +kernel
theorem dX7_foretellPuts_62 : decode cX7_foretellPuts 62 = .ok (.getfield 53, 3) := by decide +kernel
theorem dX7_foretellPuts_65 : decode cX7_foretellPuts 65 = .ok (.getfield 309, 3) := by decide +kernel
theorem dX7_foretellPuts_68 : decode cX7_foretellPuts 68 = .ok (.iload_n 1, 1) := by decide +kernel
theorem dX7_foretellPuts_69 : decode cX7_foretellPuts 69 = .ok (.aaload, 1) := by decide +kernel
theorem dX7_foretellPuts_70 : decode cX7_foretellPuts 70 = .ok (.iload 4, 2) := by decide +kernel
theorem dX7_foretellPuts_72 : decode cX7_foretellPuts 72 = .ok (.aload_n 0, 1) := by decide +kernel
theorem dX7_foretellPuts_73 : decode cX7_foretellPuts 73 = .ok (.getfield 33, 3) := by decide +kernel
