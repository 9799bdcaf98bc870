theorem dX8_blowOn_9 : decode cX8_blowOn 9 = .ok (.getfield 19, 3) := by decide +kernel
theorem dX8_blowOn_12 : decode cX8_blowOn 12 = .ok (.iload_n 3, 1) := by decide +kernel
theorem dX8_blowOn_13 : decode cX8_blowOn 13 = .ok (.bipush 24, 2) := by decide +kernel
theorem dX8_blowOn_15 : decode cX8_blowOn 15 = .ok (.iadd, 1) := by decide +kernel
theorem dX8_blowOn_16 : decode cX8_blowOn 16 = .ok (.iaload, 1) := by decide +kernel
theorem dX8_blowOn_17 : decode cX8_blowOn 17 = .ok (.invokevirtual 127, 3) := by decide +kernel
theorem dX8_blowOn_20 : decode cX8_blowOn 20 = .ok (.istore 4, 2) := by decide +kernel
theorem dX8_blowOn_22 : decode cX8_blowOn 22 = .ok (.aload_n 0, 1) := by decide +kernel
theorem dX8_blowOn_23 : decode cX8_blowOn 23 = .ok (.getfield 19, 3) := by decide +kernel
theorem dX8_blowOn_26 : decode cX8_blowOn 26 = .ok (.iload_n 3, 1) := by decide +kernel
theorem dX8_blowOn_27 : decode cX8_blowOn 27 = .ok (.bipush 25, 2) := by decide +kernel
theorem dX8_blowOn_29 : decode cX8_blowOn 29 = .ok (.iadd, 1) := by decide +kernel
theorem dX8_blowOn_30 : decode cX8_blowOn 30 = .ok (.aload_n 0, 1) := by decide +kernel
theorem dX8_blowOn_31 : decode cX8_blowOn 31 = .ok (.iload_n 1, 1) := by decide +kernel
theorem dX8_blowOn_32 : decode cX8_blowOn 32 = .ok (.iload 4, 2) := by decide +kernel
theorem dX8_blowOn_34 : decode cX8_blowOn 34 = .ok (.invokevirtual 130, 3) := by decide +kernel
theorem dX8_blowOn_37 : decode cX8_blowOn 37 = .ok (.iastore, 1) := by decide +kernel
theorem dX8_blowOn_38 : decode cX8_blowOn 38 = .ok (.aload_n 0, 1) := by decide +kernel
theorem dX8_blowOn_39 : decode cX8_blowOn 39 = .ok (.getfield 19, 3) := by decide +kernel
theorem dX8_blowOn_42 : decode cX8_blowOn 42 = .ok (.iload_n 3, 1) := by decide +kernel
theorem dX8_blowOn_43 : decode cX8_blowOn 43 = .ok (.bipush 23, 2) := by decide +kernel
theorem dX8_blowOn_45 : decode cX8_blowOn 45 = .ok (.iadd, 1) := by decide +kernel
theorem dX8_blowOn_46 : decode cX8_blowOn 46 = .ok (.iload 4, 2) := by decide +kernel
theorem dX8_blowOn_48 : decode cX8_blowOn 48 = .ok (.iastore, 1) := by decide +kernel
theorem dX8_blowOn_49 : decode cX8_blowOn 49 = .ok (.aload_n 0, 1) := by decide +kernel
theorem dX8_blowOn_50 : decode cX8_blowOn 50 = .ok (.getfield 19, 3) := by decide +kernel
theorem dX8_blowOn_53 : decode cX8_blowOn 53 = .ok (.iload_n 3, 1) := by decide +kernel
theorem dX8_blowOn_54 : decode cX8_blowOn 54 = .ok (.bipush 24, 2) := by decide +kernel
theorem dX8_blowOn_56 : decode cX8_blowOn 56 = .ok (.iadd, 1) := by decide +kernel
theorem dX8_blowOn_57 : decode cX8_blowOn 57 = .ok (.iconst 0, 1) := by decide +kernel
theorem dX8_blowOn_58 : decode cX8_blowOn 58 = .ok (.iastore, 1) := by decide +kernel
theorem dX8_blowOn_59 : decode cX8_blowOn 59 = .ok (.aload_n 0, 1) := by decide +kernel
theorem dX8_blowOn_60 : decode cX8_blowOn 60 = .ok (.getfield 19, 3) := by decide +kernel
theorem dX8_blowOn_63 : decode cX8_blowOn 63 = .ok (.iload_n 3, 1) := by decide +kernel
theorem dX8_blowOn_64 : decode cX8_blowOn 64 = .ok (.bipush 26, 2) := by decide +kernel
theorem dX8_blowOn_66 : decode cX8_blowOn 66 = .ok (.iadd, 1) := by decide +kernel
theorem dX8_blowOn_67 : decode cX8_blowOn 67 = .ok (.dup2, 1) := by decide +kernel
theorem dX8_blowOn_68 : decode cX8_blowOn 68 = .ok (.iaload, 1) := by decide +kernel
theorem dX8_blowOn_69 : decode cX8_blowOn 69 = .ok (.iconst 1, 1) := by decide +kernel
theorem dX8_blowOn_70 : decode cX8_blowOn 70 = .ok (.iadd, 1) := by decide +kernel
theorem dX8_blowOn_71 : decode cX8_blowOn 71 = .ok (.iastore, 1) := by decide +kernel
theorem dX8_blowOn_72 : decode cX8_blowOn 72 = .ok (.return_, 1) := by decide +kernel
set_option maxRecDepth 20000 in
theorem ggX8_wind_X8_isWind : GoodIn wsX8_wind wsX8_isWind := goodIn_r _ [8, 9, 10, 11, 7, 12, 27, 28, 29, 30, 31, 32, 33, 34, 35, 36, 37, 38, 39, 40, 41, 42, 43, 44, 45, 46, 47, 48, 49, 50, 51, 52, 53, 54, 55, 56, 57] (by decide +kernel) (by decide +kernel)
set_option maxRecDepth 20000 in
theorem gX8_wind_X8_isWind : GoodIn wsX8_wind (wsV RX8 133 RX8 yX8_isWind wsX8_isWind) := goodIn_app (goodIn_of _ (by decide +kernel)) ggX8_wind_X8_isWind
set_option maxRecDepth 20000 in
theorem ggX8_wind_X8_in : GoodIn wsX8_wind wsX8_in := goodIn_r _ [12] (by decide +kernel) (by decide +kernel)
set_option maxRecDepth 20000 in
theorem gX8_wind_X8_in : GoodIn wsX8_wind (va_wsS RX8 59 yX8_in wsX8_in) := goodIn_app (goodIn_of _ (by decide +kernel)) ggX8_wind_X8_in
set_option maxRecDepth 20000 in
theorem ggX8_wind_X8_pointsBy : GoodIn wsX8_wind wsX8_pointsBy := goodIn_r _ [16, 3, 17, 2, 18, 19, 7, 20, 21, 22, 23, 24, 25, 26, 10, 11, 12, 27, 28, 29, 30, 31, 32, 33, 34, 35, 36, 37, 38, 39, 40, 41, 42, 43, 44, 45, 46, 47, 48, 49, 50, 51, 52, 53, 54, 55, 56, 57] (by decide +kernel) (by decide +kernel)
set_option maxRecDepth 20000 in
theorem gX8_wind_X8_pointsBy : GoodIn wsX8_wind (wsV RX8 127 RX8 yX8_pointsBy wsX8_pointsBy) := goodIn_app (goodIn_of _ (by decide +kernel)) ggX8_wind_X8_pointsBy
theorem dX8_wind_0 : decode cX8_wind 0 = .ok (.aload_n 0, 1) := by decide +kernel
theorem dX8_wind_1 : decode cX8_wind 1 = .ok (.iload_n 1, 1) := by decide +kernel
theorem dX8_wind_2 : decode cX8_wind 2 = .ok (.invokevirtual 133, 3) := by decide +kernel
theorem dX8_wind_5 : decode cX8_wind 5 = .ok (.ifCond .ne 5, 3) := by decide +kernel
theorem dX8_wind_8 : decode cX8_wind 8 = .ok (.iconst (-1), 1) := by decide +kernel
theorem dX8_wind_9 : decode cX8_wind 9 = .ok (.ireturn, 1) := by decide +kernel
theorem dX8_wind_10 : decode cX8_wind 10 = .ok (.iload_n 2, 1) := by decide +kernel
theorem dX8_wind_11 : decode cX8_wind 11 = .ok (.i2l, 1) := by decide +kernel
theorem dX8_wind_12 : decode cX8_wind 12 = .ok (.lconst 0, 1) := by decide +kernel
theorem dX8_wind_13 : decode cX8_wind 13 = .ok (.ldc2_w 136, 3) := by decide +kernel
theorem dX8_wind_16 : decode cX8_wind 16 = .ok (.invokestatic 59, 3) := by decide +kernel
theorem dX8_wind_19 : decode cX8_wind 19 = .ok (.ifCond .eq 14, 3) := by decide +kernel
theorem dX8_wind_22 : decode cX8_wind 22 = .ok (.aload_n 0, 1) := by decide +kernel
theorem dX8_wind_23 : decode cX8_wind 23 = .ok (.getfield 16, 3) := by decide +kernel
theorem dX8_wind_26 : decode cX8_wind 26 = .ok (.iconst 3, 1) := by decide +kernel
theorem dX8_wind_27 : decode cX8_wind 27 = .ok (.iload_n 1, 1) := by decide +kernel
theorem dX8_wind_28 : decode cX8_wind 28 = .ok (.imul, 1) := by decide +kernel
theorem dX8_wind_29 : decode cX8_wind 29 = .ok (.iload_n 2, 1) := by decide +kernel
theorem dX8_wind_30 : decode cX8_wind 30 = .ok (.iadd, 1) := by decide +kernel
theorem dX8_wind_31 : decode cX8_wind 31 = .ok (.iaload, 1) := by decide +kernel
theorem dX8_wind_32 : decode cX8_wind 32 = .ok (.ireturn, 1) := by decide +kernel
theorem dX8_wind_33 : decode cX8_wind 33 = .ok (.iload_n 2, 1) := by decide +kernel
theorem dX8_wind_34 : decode cX8_wind 34 = .ok (.iconst 3, 1) := by decide +kernel
theorem dX8_wind_35 : decode cX8_wind 35 = .ok (.if_icmp .ne 27, 3) := by decide +kernel
theorem dX8_wind_38 : decode cX8_wind 38 = .ok (.aload_n 0, 1) := by decide +kernel
theorem dX8_wind_39 : decode cX8_wind 39 = .ok (.iconst 0, 1) := by decide +kernel
theorem dX8_wind_40 : decode cX8_wind 40 = .ok (.iload_n 1, 1) := by decide +kernel
theorem dX8_wind_41 : decode cX8_wind 41 = .ok (.aload_n 0, 1) := by decide +kernel
theorem dX8_wind_42 : decode cX8_wind 42 = .ok (.getfield 19, 3) := by decide +kernel
theorem dX8_wind_45 : decode cX8_wind 45 = .ok (.bipush 24, 2) := by decide +kernel
theorem dX8_wind_47 : decode cX8_wind 47 = .ok (.iaload, 1) := by decide +kernel
theorem dX8_wind_48 : decode cX8_wind 48 = .ok (.invokevirtual 127, 3) := by decide +kernel
theorem dX8_wind_51 : decode cX8_wind 51 = .ok (.aload_n 0, 1) := by decide +kernel
theorem dX8_wind_52 : decode cX8_wind 52 = .ok (.getfield 19, 3) := by decide +kernel
theorem dX8_wind_55 : decode cX8_wind 55 = .ok (.bipush 23, 2) := by decide +kernel
theorem dX8_wind_57 : decode cX8_wind 57 = .ok (.iaload, 1) := by decide +kernel
theorem dX8_wind_58 : decode cX8_wind 58 = .ok (.ixor, 1) := by decide +kernel
theorem dX8_wind_59 : decode cX8_wind 59 = .ok (.goto 5, 3) := by decide +kernel
theorem dX8_wind_62 : decode cX8_wind 62 = .ok (.bipush (-2), 2) := by decide +kernel
theorem dX8_wind_64 : decode cX8_wind 64 = .ok (.ireturn, 1) := by decide +kernel
theorem dX8_keepAct_0 : decode cX8_keepAct 0 = .ok (.iconst 0, 1) := by decide +kernel
theorem dX8_keepAct_1 : decode cX8_keepAct 1 = .ok (.istore_n 1, 1) := by decide +kernel
theorem dX8_keepAct_2 : decode cX8_keepAct 2 = .ok (.iload_n 1, 1) := by decide +kernel
theorem dX8_keepAct_3 : decode cX8_keepAct 3 = .ok (.bipush 27, 2) := by decide +kernel
theorem dX8_keepAct_5 : decode cX8_keepAct 5 = .ok (.if_icmp .ge 29, 3) := by decide +kernel
theorem dX8_keepAct_8 : decode cX8_keepAct 8 = .ok (.aload_n 0, 1) := by decide +kernel
theorem dX8_keepAct_9 : decode cX8_keepAct 9 = .ok (.getfield 37, 3) := by decide +kernel
theorem dX8_keepAct_12 : decode cX8_keepAct 12 = .ok (.bipush 27, 2) := by decide +kernel
theorem dX8_keepAct_14 : decode cX8_keepAct 14 = .ok (.aload_n 0, 1) := by decide +kernel
theorem dX8_keepAct_15 : decode cX8_keepAct 15 = .ok (.getfield 138, 3) := by decide +kernel
theorem dX8_keepAct_18 : decode cX8_keepAct 18 = .ok (.imul, 1) := by decide +kernel
theorem dX8_keepAct_19 : decode cX8_keepAct 19 = .ok (.iload_n 1, 1) := by decide +kernel
theorem dX8_keepAct_20 : decode cX8_keepAct 20 = .ok (.iadd, 1) := by decide +kernel
theorem dX8_keepAct_21 : decode cX8_keepAct 21 = .ok (.aload_n 0, 1) := by decide +kernel
theorem dX8_keepAct_22 : decode cX8_keepAct 22 = .ok (.getfield 19, 3) := by decide +kernel
theorem dX8_keepAct_25 : decode cX8_keepAct 25 = .ok (.iload_n 1, 1) := by decide +kernel
theorem dX8_keepAct_26 : decode cX8_keepAct 26 = .ok (.iaload, 1) := by decide +kernel
theorem dX8_keepAct_27 : decode cX8_keepAct 27 = .ok (.iastore, 1) := by decide +kernel
theorem dX8_keepAct_28 : decode cX8_keepAct 28 = .ok (.iinc 1 1, 3) := by decide +kernel
theorem dX8_keepAct_31 : decode cX8_keepAct 31 = .ok (.goto (-29), 3) := by decide +kernel
theorem dX8_keepAct_34 : decode cX8_keepAct 34 = .ok (.aload_n 0, 1) := by decide +kernel
theorem dX8_keepAct_35 : decode cX8_keepAct 35 = .ok (.aload_n 0, 1) := by decide +kernel
theorem dX8_keepAct_36 : decode cX8_keepAct 36 = .ok (.getfield 138, 3) := by decide +kernel
theorem dX8_keepAct_39 : decode cX8_keepAct 39 = .ok (.iconst 1, 1) := by decide +kernel
theorem dX8_keepAct_40 : decode cX8_keepAct 40 = .ok (.iadd, 1) := by decide +kernel
theorem dX8_keepAct_41 : decode cX8_keepAct 41 = .ok (.bipush 14, 2) := by decide +kernel
theorem dX8_keepAct_43 : decode cX8_keepAct 43 = .ok (.irem, 1) := by decide +kernel
theorem dX8_keepAct_44 : decode cX8_keepAct 44 = .ok (.putfield 138, 3) := by decide +kernel
theorem dX8_keepAct_47 : decode cX8_keepAct 47 = .ok (.aload_n 0, 1) := by decide +kernel
theorem dX8_keepAct_48 : decode cX8_keepAct 48 = .ok (.aload_n 0, 1) := by decide +kernel
theorem dX8_keepAct_49 : decode cX8_keepAct 49 = .ok (.getfield 112, 3) := by decide +kernel
theorem dX8_keepAct_52 : decode cX8_keepAct 52 = .ok (.bipush 14, 2) := by decide +kernel
theorem dX8_keepAct_54 : decode cX8_keepAct 54 = .ok (.if_icmp .ge 12, 3) := by decide +kernel
theorem dX8_keepAct_57 : decode cX8_keepAct 57 = .ok (.aload_n 0, 1) := by decide +kernel
theorem dX8_keepAct_58 : decode cX8_keepAct 58 = .ok (.getfield 112, 3) := by decide +kernel
theorem dX8_keepAct_61 : decode cX8_keepAct 61 = .ok (.iconst 1, 1) := by decide +kernel
theorem dX8_keepAct_62 : decode cX8_keepAct 62 = .ok (.iadd, 1) := by decide +kernel
theorem dX8_keepAct_63 : decode cX8_keepAct 63 = .ok (.goto 5, 3) := by decide +kernel
theorem dX8_keepAct_66 : decode cX8_keepAct 66 = .ok (.bipush 14, 2) := by decide +kernel
theorem dX8_keepAct_68 : decode cX8_keepAct 68 = .ok (.putfield 112, 3) := by decide +kernel
theorem dX8_keepAct_71 : decode cX8_keepAct 71 = .ok (.return_, 1) := by decide +kernel
set_option maxRecDepth 20000 in
theorem ggX8_blow_X8_isWind : GoodIn wsX8_blow wsX8_isWind := goodIn_r _ [6, 7, 8, 9, 5, 10, 46, 47, 48, 49, 50, 51, 52, 53, 54, 55, 56, 57, 58, 59, 60, 61, 62, 63, 64, 65, 66, 67, 68, 69, 70, 71, 72, 73, 74, 75, 76] (by decide +kernel) (by decide +kernel)
set_option maxRecDepth 20000 in
theorem gX8_blow_X8_isWind : GoodIn wsX8_blow (wsV RX8 133 RX8 yX8_isWind wsX8_isWind) := goodIn_app (goodIn_of _ (by decide +kernel)) ggX8_blow_X8_isWind
set_option maxRecDepth 20000 in
theorem ggX8_blow_X8_keepAct : GoodIn wsX8_blow wsX8_keepAct := goodIn_r _ [14, 15, 16, 1, 17, 46, 47, 48, 49, 50, 51, 52, 53, 54, 55, 56, 57, 58, 59, 60, 61, 62, 63, 64, 65, 66, 67, 68, 69, 70, 71, 72, 73, 74, 75, 76] (by decide +kernel) (by decide +kernel)
set_option maxRecDepth 20000 in
theorem gX8_blow_X8_keepAct : GoodIn wsX8_blow (wsV RX8 141 RX8 yX8_keepAct wsX8_keepAct) := goodIn_app (goodIn_of _ (by decide +kernel)) ggX8_blow_X8_keepAct
set_option maxRecDepth 20000 in
theorem ggX8_blow_X8_blowOn : GoodIn wsX8_blow wsX8_blowOn := goodIn_r _ [21, 1, 22, 23, 24, 5, 25, 26, 27, 28, 29, 30, 31, 32, 33, 34, 35, 36, 8, 9, 10, 37, 38, 39, 40, 41, 42, 43, 44, 45, 46, 47, 48, 49, 50, 51, 52, 53, 54, 55, 56, 57, 58, 59, 60, 61, 62, 63, 64, 65, 66, 67, 68, 69, 70, 71, 72, 73, 74, 75, 76] (by decide +kernel) (by decide +kernel)
set_option maxRecDepth 20000 in
theorem gX8_blow_X8_blowOn : GoodIn wsX8_blow (wsV RX8 144 RX8 yX8_blowOn wsX8_blowOn) := goodIn_app (goodIn_of _ (by decide +kernel)) ggX8_blow_X8_blowOn
theorem dX8_blow_0 : decode cX8_blow 0 = .ok (.aload_n 0, 1) := by decide +kernel
theorem dX8_blow_1 : decode cX8_blow 1 = .ok (.iload_n 1, 1) := by decide +kernel
theorem dX8_blow_2 : decode cX8_blow 2 = .ok (.invokevirtual 133, 3) := by decide +kernel
theorem dX8_blow_5 : decode cX8_blow 5 = .ok (.ifCond .ne 5, 3) := by decide +kernel
theorem dX8_blow_8 : decode cX8_blow 8 = .ok (.iconst (-1), 1) := by decide +kernel
theorem dX8_blow_9 : decode cX8_blow 9 = .ok (.ireturn, 1) := by decide +kernel
theorem dX8_blow_10 : decode cX8_blow 10 = .ok (.aload_n 0, 1) := by decide +kernel
theorem dX8_blow_11 : decode cX8_blow 11 = .ok (.invokevirtual 141, 3) := by decide +kernel
theorem dX8_blow_14 : decode cX8_blow 14 = .ok (.aload_n 0, 1) := by decide +kernel
theorem dX8_blow_15 : decode cX8_blow 15 = .ok (.iconst 0, 1) := by decide +kernel
theorem dX8_blow_16 : decode cX8_blow 16 = .ok (.iload_n 1, 1) := by decide +kernel
theorem dX8_blow_17 : decode cX8_blow 17 = .ok (.invokevirtual 144, 3) := by decide +kernel
theorem dX8_blow_20 : decode cX8_blow 20 = .ok (.aload_n 0, 1) := by decide +kernel
theorem dX8_blow_21 : decode cX8_blow 21 = .ok (.getfield 19, 3) := by decide +kernel
theorem dX8_blow_24 : decode cX8_blow 24 = .ok (.bipush 25, 2) := by decide +kernel
theorem dX8_blow_26 : decode cX8_blow 26 = .ok (.iaload, 1) := by decide +kernel
theorem dX8_blow_27 : decode cX8_blow 27 = .ok (.ireturn, 1) := by decide +kernel
set_option maxRecDepth 20000 in
theorem ggX8_fell_X8_in : GoodIn wsX8_fell wsX8_in := goodIn_r _ [6] (by decide +kernel) (by decide +kernel)
set_option maxRecDepth 20000 in
theorem gX8_fell_X8_in : GoodIn wsX8_fell (va_wsS RX8 59 yX8_in wsX8_in) := goodIn_app (goodIn_of _ (by decide +kernel)) ggX8_fell_X8_in
set_option maxRecDepth 20000 in
theorem ggX8_fell_X8_keepAct : GoodIn wsX8_fell wsX8_keepAct := goodIn_r _ [10, 11, 12, 2, 13, 14, 15, 16, 17, 18, 19, 20, 21, 22, 23, 24, 25, 26, 27, 28, 29, 30, 31, 32, 33, 34, 35, 36, 37, 38, 39, 40, 41, 42, 43, 44] (by decide +kernel) (by decide +kernel)
set_option maxRecDepth 20000 in
theorem gX8_fell_X8_keepAct : GoodIn wsX8_fell (wsV RX8 141 RX8 yX8_keepAct wsX8_keepAct) := goodIn_app (goodIn_of _ (by decide +kernel)) ggX8_fell_X8_keepAct
theorem dX8_fell_0 : decode cX8_fell 0 = .ok (.iload_n 1, 1) := by decide +kernel
theorem dX8_fell_1 : decode cX8_fell 1 = .ok (.i2l, 1) := by decide +kernel
theorem dX8_fell_2 : decode cX8_fell 2 = .ok (.lconst 0, 1) := by decide +kernel
theorem dX8_fell_3 : decode cX8_fell 3 = .ok (.ldc2_w 72, 3) := by decide +kernel
theorem dX8_fell_6 : decode cX8_fell 6 = .ok (.invokestatic 59, 3) := by decide +kernel
theorem dX8_fell_9 : decode cX8_fell 9 = .ok (.ifCond .ne 6, 3) := by decide +kernel
theorem dX8_fell_12 : decode cX8_fell 12 = .ok (.bipush (-2), 2) := by decide +kernel
theorem dX8_fell_14 : decode cX8_fell 14 = .ok (.ireturn, 1) := by decide +kernel
theorem dX8_fell_15 : decode cX8_fell 15 = .ok (.aload_n 0, 1) := by decide +kernel
theorem dX8_fell_16 : decode cX8_fell 16 = .ok (.getfield 19, 3) := by decide +kernel
theorem dX8_fell_19 : decode cX8_fell 19 = .ok (.bipush 12, 2) := by decide +kernel
theorem dX8_fell_21 : decode cX8_fell 21 = .ok (.iload_n 1, 1) := by decide +kernel
theorem dX8_fell_22 : decode cX8_fell 22 = .ok (.iadd, 1) := by decide +kernel
theorem dX8_fell_23 : decode cX8_fell 23 = .ok (.iaload, 1) := by decide +kernel
theorem dX8_fell_24 : decode cX8_fell 24 = .ok (.ifCond .ne 6, 3) := by decide +kernel
theorem dX8_fell_27 : decode cX8_fell 27 = .ok (.bipush (-3), 2) := by decide +kernel
theorem dX8_fell_29 : decode cX8_fell 29 = .ok (.ireturn, 1) := by decide +kernel
theorem dX8_fell_30 : decode cX8_fell 30 = .ok (.aload_n 0, 1) := by decide +kernel
theorem dX8_fell_31 : decode cX8_fell 31 = .ok (.invokevirtual 141, 3) := by decide +kernel
theorem dX8_fell_34 : decode cX8_fell 34 = .ok (.aload_n 0, 1) := by decide +kernel
theorem dX8_fell_35 : decode cX8_fell 35 = .ok (.getfield 19, 3) := by decide +kernel
theorem dX8_fell_38 : decode cX8_fell 38 = .ok (.bipush 12, 2) := by decide +kernel
theorem dX8_fell_40 : decode cX8_fell 40 = .ok (.iload_n 1, 1) := by decide +kernel
theorem dX8_fell_41 : decode cX8_fell 41 = .ok (.iadd, 1) := by decide +kernel
theorem dX8_fell_42 : decode cX8_fell 42 = .ok (.iaload, 1) := by decide +kernel
theorem dX8_fell_43 : decode cX8_fell 43 = .ok (.istore_n 2, 1) := by decide +kernel
theorem dX8_fell_44 : decode cX8_fell 44 = .ok (.aload_n 0, 1) := by decide +kernel
theorem dX8_fell_45 : decode cX8_fell 45 = .ok (.getfield 19, 3) := by decide +kernel
theorem dX8_fell_48 : decode cX8_fell 48 = .ok (.bipush 12, 2) := by decide +kernel
theorem dX8_fell_50 : decode cX8_fell 50 = .ok (.iload_n 1, 1) := by decide +kernel
theorem dX8_fell_51 : decode cX8_fell 51 = .ok (.iadd, 1) := by decide +kernel
theorem dX8_fell_52 : decode cX8_fell 52 = .ok (.iconst 0, 1) := by decide +kernel
theorem dX8_fell_53 : decode cX8_fell 53 = .ok (.iastore, 1) := by decide +kernel
theorem dX8_fell_54 : decode cX8_fell 54 = .ok (.iload_n 2, 1) := by decide +kernel
theorem dX8_fell_55 : decode cX8_fell 55 = .ok (.ireturn, 1) := by decide +kernel
theorem dX8_isCockOn_0 : decode cX8_isCockOn 0 = .ok (.iconst 0, 1) := by decide +kernel
theorem dX8_isCockOn_1 : decode cX8_isCockOn 1 = .ok (.istore_n 2, 1) := by decide +kernel
theorem dX8_isCockOn_2 : decode cX8_isCockOn 2 = .ok (.iconst 0, 1) := by decide +kernel
theorem dX8_isCockOn_3 : decode cX8_isCockOn 3 = .ok (.istore_n 3, 1) := by decide +kernel
theorem dX8_isCockOn_4 : decode cX8_isCockOn 4 = .ok (.iload_n 3, 1) := by decide +kernel
theorem dX8_isCockOn_5 : decode cX8_isCockOn 5 = .ok (.aload_n 0, 1) := by decide +kernel
theorem dX8_isCockOn_6 : decode cX8_isCockOn 6 = .ok (.getfield 53, 3) := by decide +kernel
theorem dX8_isCockOn_9 : decode cX8_isCockOn 9 = .ok (.if_icmp .ge 29, 3) := by decide +kernel
theorem dX8_isCockOn_12 : decode cX8_isCockOn 12 = .ok (.iload_n 2, 1) := by decide +kernel
theorem dX8_isCockOn_13 : decode cX8_isCockOn 13 = .ok (.ifCond .ne 13, 3) := by decide +kernel
theorem dX8_isCockOn_16 : decode cX8_isCockOn 16 = .ok (.aload_n 0, 1) := by decide +kernel
theorem dX8_isCockOn_17 : decode cX8_isCockOn 17 = .ok (.getfield 19, 3) := by decide +kernel
theorem dX8_isCockOn_20 : decode cX8_isCockOn 20 = .ok (.iload_n 3, 1) := by decide +kernel
theorem dX8_isCockOn_21 : decode cX8_isCockOn 21 = .ok (.iaload, 1) := by decide +kernel
theorem dX8_isCockOn_22 : decode cX8_isCockOn 22 = .ok (.iload_n 1, 1) := by decide +kernel
theorem dX8_isCockOn_23 : decode cX8_isCockOn 23 = .ok (.if_icmp .ne 7, 3) := by decide +kernel
theorem dX8_isCockOn_26 : decode cX8_isCockOn 26 = .ok (.iconst 1, 1) := by decide +kernel
theorem dX8_isCockOn_27 : decode cX8_isCockOn 27 = .ok (.goto 4, 3) := by decide +kernel
theorem dX8_isCockOn_30 : decode cX8_isCockOn 30 = .ok (.iconst 0, 1) := by decide +kernel
theorem dX8_isCockOn_31 : decode cX8_isCockOn 31 = .ok (.istore_n 2, 1) := by decide +kernel
theorem dX8_isCockOn_32 : decode cX8_isCockOn 32 = .ok (.iinc 3 1, 3) := by decide +kernel
theorem dX8_isCockOn_35 : decode cX8_isCockOn 35 = .ok (.goto (-31), 3) := by decide +kernel
theorem dX8_isCockOn_38 : decode cX8_isCockOn 38 = .ok (.iload_n 2, 1) := by decide +kernel
theorem dX8_isCockOn_39 : decode cX8_isCockOn 39 = .ok (.ireturn, 1) := by decide +kernel
set_option maxRecDepth 20000 in
theorem ggX8_move_X8_isCock : GoodIn wsX8_move wsX8_isCock := goodIn_r _ [7, 8, 9, 10, 6, 11, 23, 24, 25, 26, 27, 28, 29, 30, 31, 32, 33, 34, 35, 36, 37, 38, 39, 40, 41, 42, 43, 44, 45, 46, 47, 48, 49, 50, 51, 52, 53] (by decide +kernel) (by decide +kernel)
set_option maxRecDepth 20000 in
theorem gX8_move_X8_isCock : GoodIn wsX8_move (wsV RX8 115 RX8 yX8_isCock wsX8_isCock) := goodIn_app (goodIn_of _ (by decide +kernel)) ggX8_move_X8_isCock
set_option maxRecDepth 20000 in
theorem ggX8_move_X8_in : GoodIn wsX8_move wsX8_in := goodIn_r _ [11] (by decide +kernel) (by decide +kernel)
set_option maxRecDepth 20000 in
theorem gX8_move_X8_in : GoodIn wsX8_move (va_wsS RX8 59 yX8_in wsX8_in) := goodIn_app (goodIn_of _ (by decide +kernel)) ggX8_move_X8_in
set_option maxRecDepth 20000 in
theorem ggX8_move_X8_isCockOn : GoodIn wsX8_move wsX8_isCockOn := goodIn_r _ [15, 8, 2, 23, 24, 25, 26, 27, 28, 29, 30, 31, 32, 33, 34, 35, 36, 37, 38, 39, 40, 41, 42, 43, 44, 45, 46, 47, 48, 49, 50, 51, 52, 53] (by decide +kernel) (by decide +kernel)
set_option maxRecDepth 20000 in
theorem gX8_move_X8_isCockOn : GoodIn wsX8_move (wsV RX8 148 RX8 yX8_isCockOn wsX8_isCockOn) := goodIn_app (goodIn_of _ (by decide +kernel)) ggX8_move_X8_isCockOn
set_option maxRecDepth 20000 in
theorem ggX8_move_X8_keepAct : GoodIn wsX8_move wsX8_keepAct := goodIn_r _ [19, 20, 21, 2, 22, 23, 24, 25, 26, 27, 28, 29, 30, 31, 32, 33, 34, 35, 36, 37, 38, 39, 40, 41, 42, 43, 44, 45, 46, 47, 48, 49, 50, 51, 52, 53] (by decide +kernel) (by decide +kernel)
set_option maxRecDepth 20000 in
theorem gX8_move_X8_keepAct : GoodIn wsX8_move (wsV RX8 141 RX8 yX8_keepAct wsX8_keepAct) := goodIn_app (goodIn_of _ (by decide +kernel)) ggX8_move_X8_keepAct
theorem dX8_move_0 : decode cX8_move 0 = .ok (.aload_n 0, 1) := by decide +kernel
theorem dX8_move_1 : decode cX8_move 1 = .ok (.iload_n 1, 1) := by decide +kernel
theorem dX8_move_2 : decode cX8_move 2 = .ok (.invokevirtual 115, 3) := by decide +kernel
theorem dX8_move_5 : decode cX8_move 5 = .ok (.ifCond .ne 5, 3) := by decide +kernel
theorem dX8_move_8 : decode cX8_move 8 = .ok (.iconst (-1), 1) := by decide +kernel
theorem dX8_move_9 : decode cX8_move 9 = .ok (.ireturn, 1) := by decide +kernel
theorem dX8_move_10 : decode cX8_move 10 = .ok (.iload_n 2, 1) := by decide +kernel
theorem dX8_move_11 : decode cX8_move 11 = .ok (.i2l, 1) := by decide +kernel
theorem dX8_move_12 : decode cX8_move 12 = .ok (.lconst 0, 1) := by decide +kernel
theorem dX8_move_13 : decode cX8_move 13 = .ok (.ldc2_w 72, 3) := by decide +kernel
theorem dX8_move_16 : decode cX8_move 16 = .ok (.invokestatic 59, 3) := by decide +kernel
theorem dX8_move_19 : decode cX8_move 19 = .ok (.ifCond .ne 6, 3) := by decide +kernel
theorem dX8_move_22 : decode cX8_move 22 = .ok (.bipush (-2), 2) := by decide +kernel
theorem dX8_move_24 : decode cX8_move 24 = .ok (.ireturn, 1) := by decide +kernel
theorem dX8_move_25 : decode cX8_move 25 = .ok (.aload_n 0, 1) := by decide +kernel
theorem dX8_move_26 : decode cX8_move 26 = .ok (.iload_n 2, 1) := by decide +kernel
theorem dX8_move_27 : decode cX8_move 27 = .ok (.invokevirtual 148, 3) := by decide +kernel
theorem dX8_move_30 : decode cX8_move 30 = .ok (.ifCond .eq 6, 3) := by decide +kernel
theorem dX8_move_33 : decode cX8_move 33 = .ok (.bipush (-3), 2) := by decide +kernel
theorem dX8_move_35 : decode cX8_move 35 = .ok (.ireturn, 1) := by decide +kernel
theorem dX8_move_36 : decode cX8_move 36 = .ok (.aload_n 0, 1) := by decide +kernel
theorem dX8_move_37 : decode cX8_move 37 = .ok (.invokevirtual 141, 3) := by decide +kernel
theorem dX8_move_40 : decode cX8_move 40 = .ok (.aload_n 0, 1) := by decide +kernel
theorem dX8_move_41 : decode cX8_move 41 = .ok (.getfield 19, 3) := by decide +kernel
theorem dX8_move_44 : decode cX8_move 44 = .ok (.iload_n 1, 1) := by decide +kernel
theorem dX8_move_45 : decode cX8_move 45 = .ok (.iaload, 1) := by decide +kernel
theorem dX8_move_46 : decode cX8_move 46 = .ok (.istore_n 3, 1) := by decide +kernel
theorem dX8_move_47 : decode cX8_move 47 = .ok (.aload_n 0, 1) := by decide +kernel
theorem dX8_move_48 : decode cX8_move 48 = .ok (.getfield 19, 3) := by decide +kernel
theorem dX8_move_51 : decode cX8_move 51 = .ok (.iload_n 1, 1) := by decide +kernel
theorem dX8_move_52 : decode cX8_move 52 = .ok (.iload_n 2, 1) := by decide +kernel
theorem dX8_move_53 : decode cX8_move 53 = .ok (.iastore, 1) := by decide +kernel
theorem dX8_move_54 : decode cX8_move 54 = .ok (.iload_n 3, 1) := by decide +kernel
theorem dX8_move_55 : decode cX8_move 55 = .ok (.ireturn, 1) := by decide +kernel
set_option maxRecDepth 20000 in
theorem ggX8_grease_X8_isCock : GoodIn wsX8_grease wsX8_isCock := goodIn_r _ [6, 7, 8, 9, 5, 10, 18, 19, 20, 21, 22, 23, 24, 25, 26, 27, 28, 29, 30, 31, 32, 33, 34, 35, 36, 37, 38, 39, 40, 41, 42, 43, 44, 45, 46, 47, 48] (by decide +kernel) (by decide +kernel)
set_option maxRecDepth 20000 in
theorem gX8_grease_X8_isCock : GoodIn wsX8_grease (wsV RX8 115 RX8 yX8_isCock wsX8_isCock) := goodIn_app (goodIn_of _ (by decide +kernel)) ggX8_grease_X8_isCock
set_option maxRecDepth 20000 in
theorem ggX8_grease_X8_keepAct : GoodIn wsX8_grease wsX8_keepAct := goodIn_r _ [14, 15, 16, 1, 17, 18, 19, 20, 21, 22, 23, 24, 25, 26, 27, 28, 29, 30, 31, 32, 33, 34, 35, 36, 37, 38, 39, 40, 41, 42, 43, 44, 45, 46, 47, 48] (by decide +kernel) (by decide +kernel)
set_option maxRecDepth 20000 in
theorem gX8_grease_X8_keepAct : GoodIn wsX8_grease (wsV RX8 141 RX8 yX8_keepAct wsX8_keepAct) := goodIn_app (goodIn_of _ (by decide +kernel)) ggX8_grease_X8_keepAct
theorem dX8_grease_0 : decode cX8_grease 0 = .ok (.aload_n 0, 1) := by decide +kernel
theorem dX8_grease_1 : decode cX8_grease 1 = .ok (.iload_n 1, 1) := by decide +kernel
theorem dX8_grease_2 : decode cX8_grease 2 = .ok (.invokevirtual 115, 3) := by decide +kernel
theorem dX8_grease_5 : decode cX8_grease 5 = .ok (.ifCond .ne 5, 3) := by decide +kernel
theorem dX8_grease_8 : decode cX8_grease 8 = .ok (.iconst (-1), 1) := by decide +kernel
theorem dX8_grease_9 : decode cX8_grease 9 = .ok (.ireturn, 1) := by decide +kernel
theorem dX8_grease_10 : decode cX8_grease 10 = .ok (.aload_n 0, 1) := by decide +kernel
theorem dX8_grease_11 : decode cX8_grease 11 = .ok (.getfield 19, 3) := by decide +kernel
theorem dX8_grease_14 : decode cX8_grease 14 = .ok (.bipush 6, 2) := by decide +kernel
theorem dX8_grease_16 : decode cX8_grease 16 = .ok (.iload_n 1, 1) := by decide +kernel
theorem dX8_grease_17 : decode cX8_grease 17 = .ok (.iadd, 1) := by decide +kernel
theorem dX8_grease_18 : decode cX8_grease 18 = .ok (.iaload, 1) := by decide +kernel
theorem dX8_grease_19 : decode cX8_grease 19 = .ok (.ifCond .ne 6, 3) := by decide +kernel
theorem dX8_grease_22 : decode cX8_grease 22 = .ok (.bipush (-3), 2) := by decide +kernel
theorem dX8_grease_24 : decode cX8_grease 24 = .ok (.ireturn, 1) := by decide +kernel
theorem dX8_grease_25 : decode cX8_grease 25 = .ok (.aload_n 0, 1) := by decide +kernel
theorem dX8_grease_26 : decode cX8_grease 26 = .ok (.invokevirtual 141, 3) := by decide +kernel
theorem dX8_grease_29 : decode cX8_grease 29 = .ok (.aload_n 0, 1) := by decide +kernel
theorem dX8_grease_30 : decode cX8_grease 30 = .ok (.getfield 19, 3) := by decide +kernel
theorem dX8_grease_33 : decode cX8_grease 33 = .ok (.bipush 6, 2) := by decide +kernel
theorem dX8_grease_35 : decode cX8_grease 35 = .ok (.iload_n 1, 1) := by decide +kernel
theorem dX8_grease_36 : decode cX8_grease 36 = .ok (.iadd, 1) := by decide +kernel
theorem dX8_grease_37 : decode cX8_grease 37 = .ok (.iaload, 1) := by decide +kernel
theorem dX8_grease_38 : decode cX8_grease 38 = .ok (.istore_n 2, 1) := by decide +kernel
theorem dX8_grease_39 : decode cX8_grease 39 = .ok (.aload_n 0, 1) := by decide +kernel
theorem dX8_grease_40 : decode cX8_grease 40 = .ok (.getfield 19, 3) := by decide +kernel
theorem dX8_grease_43 : decode cX8_grease 43 = .ok (.bipush 6, 2) := by decide +kernel
theorem dX8_grease_45 : decode cX8_grease 45 = .ok (.iload_n 1, 1) := by decide +kernel
theorem dX8_grease_46 : decode cX8_grease 46 = .ok (.iadd, 1) := by decide +kernel
theorem dX8_grease_47 : decode cX8_grease 47 = .ok (.iconst 0, 1) := by decide +kernel
theorem dX8_grease_48 : decode cX8_grease 48 = .ok (.iastore, 1) := by decide +kernel
theorem dX8_grease_49 : decode cX8_grease 49 = .ok (.iload_n 2, 1) := by decide +kernel
theorem dX8_grease_50 : decode cX8_grease 50 = .ok (.ireturn, 1) := by decide +kernel
set_option maxRecDepth 20000 in
theorem ggX8_capture_X8_isCock : GoodIn wsX8_capture wsX8_isCock := goodIn_r _ [6, 7, 8, 9, 5, 10, 18, 19, 20, 21, 22, 23, 24, 25, 26, 27, 28, 29, 30, 31, 32, 33, 34, 35, 36, 37, 38, 39, 40, 41, 42, 43, 44, 45, 46, 47, 48] (by decide +kernel) (by decide +kernel)
set_option maxRecDepth 20000 in
theorem gX8_capture_X8_isCock : GoodIn wsX8_capture (wsV RX8 115 RX8 yX8_isCock wsX8_isCock) := goodIn_app (goodIn_of _ (by decide +kernel)) ggX8_capture_X8_isCock
set_option maxRecDepth 20000 in
theorem ggX8_capture_X8_keepAct : GoodIn wsX8_capture wsX8_keepAct := goodIn_r _ [14, 15, 16, 1, 17, 18, 19, 20, 21, 22, 23, 24, 25, 26, 27, 28, 29, 30, 31, 32, 33, 34, 35, 36, 37, 38, 39, 40, 41, 42, 43, 44, 45, 46, 47, 48] (by decide +kernel) (by decide +kernel)
set_option maxRecDepth 20000 in
theorem gX8_capture_X8_keepAct : GoodIn wsX8_capture (wsV RX8 141 RX8 yX8_keepAct wsX8_keepAct) := goodIn_app (goodIn_of _ (by decide +kernel)) ggX8_capture_X8_keepAct
theorem dX8_capture_0 : decode cX8_capture 0 = .ok (.aload_n 0, 1) := by decide +kernel
theorem dX8_capture_1 : decode cX8_capture 1 = .ok (.iload_n 1, 1) := by decide +kernel
theorem dX8_capture_2 : decode cX8_capture 2 = .ok (.invokevirtual 115, 3) := by decide +kernel
theorem dX8_capture_5 : decode cX8_capture 5 = .ok (.ifCond .ne 5, 3) := by decide +kernel
theorem dX8_capture_8 : decode cX8_capture 8 = .ok (.iconst (-1), 1) := by decide +kernel
theorem dX8_capture_9 : decode cX8_capture 9 = .ok (.ireturn, 1) := by decide +kernel
theorem dX8_capture_10 : decode cX8_capture 10 = .ok (.aload_n 0, 1) := by decide +kernel
theorem dX8_capture_11 : decode cX8_capture 11 = .ok (.invokevirtual 141, 3) := by decide +kernel
theorem dX8_capture_14 : decode cX8_capture 14 = .ok (.aload_n 0, 1) := by decide +kernel
theorem dX8_capture_15 : decode cX8_capture 15 = .ok (.getfield 19, 3) := by decide +kernel
theorem dX8_capture_18 : decode cX8_capture 18 = .ok (.bipush 22, 2) := by decide +kernel
theorem dX8_capture_20 : decode cX8_capture 20 = .ok (.dup2, 1) := by decide +kernel
theorem dX8_capture_21 : decode cX8_capture 21 = .ok (.iaload, 1) := by decide +kernel
theorem dX8_capture_22 : decode cX8_capture 22 = .ok (.iconst 1, 1) := by decide +kernel
theorem dX8_capture_23 : decode cX8_capture 23 = .ok (.iload_n 1, 1) := by decide +kernel
theorem dX8_capture_24 : decode cX8_capture 24 = .ok (.ishl, 1) := by decide +kernel
theorem dX8_capture_25 : decode cX8_capture 25 = .ok (.ixor, 1) := by decide +kernel
theorem dX8_capture_26 : decode cX8_capture 26 = .ok (.iastore, 1) := by decide +kernel
theorem dX8_capture_27 : decode cX8_capture 27 = .ok (.aload_n 0, 1) := by decide +kernel
theorem dX8_capture_28 : decode cX8_capture 28 = .ok (.getfield 19, 3) := by decide +kernel
theorem dX8_capture_31 : decode cX8_capture 31 = .ok (.bipush 22, 2) := by decide +kernel
theorem dX8_capture_33 : decode cX8_capture 33 = .ok (.iaload, 1) := by decide +kernel
theorem dX8_capture_34 : decode cX8_capture 34 = .ok (.iload_n 1, 1) := by decide +kernel
theorem dX8_capture_35 : decode cX8_capture 35 = .ok (.ishr, 1) := by decide +kernel
theorem dX8_capture_36 : decode cX8_capture 36 = .ok (.iconst 1, 1) := by decide +kernel
theorem dX8_capture_37 : decode cX8_capture 37 = .ok (.iand, 1) := by decide +kernel
theorem dX8_capture_38 : decode cX8_capture 38 = .ok (.ireturn, 1) := by decide +kernel
set_option maxRecDepth 20000 in
theorem ggX8_hold_X8_isCock : GoodIn wsX8_hold wsX8_isCock := goodIn_r _ [6, 7, 8, 9, 5, 10, 18, 19, 20, 21, 22, 23, 24, 25, 26, 27, 28, 29, 30, 31, 32, 33, 34, 35, 36, 37, 38, 39, 40, 41, 42, 43, 44, 45, 46, 47, 48] (by decide +kernel) (by decide +kernel)
set_option maxRecDepth 20000 in
theorem gX8_hold_X8_isCock : GoodIn wsX8_hold (wsV RX8 115 RX8 yX8_isCock wsX8_isCock) := goodIn_app (goodIn_of _ (by decide +kernel)) ggX8_hold_X8_isCock
set_option maxRecDepth 20000 in
theorem ggX8_hold_X8_keepAct : GoodIn wsX8_hold wsX8_keepAct := goodIn_r _ [14, 15, 16, 1, 17, 18, 19, 20, 21, 22, 23, 24, 25, 26, 27, 28, 29, 30, 31, 32, 33, 34, 35, 36, 37, 38, 39, 40, 41, 42, 43, 44, 45, 46, 47, 48] (by decide +kernel) (by decide +kernel)
set_option maxRecDepth 20000 in
theorem gX8_hold_X8_keepAct : GoodIn wsX8_hold (wsV RX8 141 RX8 yX8_keepAct wsX8_keepAct) := goodIn_app (goodIn_of _ (by decide +kernel)) ggX8_hold_X8_keepAct
theorem dX8_hold_0 : decode cX8_hold 0 = .ok (.aload_n 0, 1) := by decide +kernel
theorem dX8_hold_1 : decode cX8_hold 1 = .ok (.iload_n 1, 1) := by decide +kernel
theorem dX8_hold_2 : decode cX8_hold 2 = .ok (.invokevirtual 115, 3) := by decide +kernel
theorem dX8_hold_5 : decode cX8_hold 5 = .ok (.ifCond .ne 5, 3) := by decide +kernel
theorem dX8_hold_8 : decode cX8_hold 8 = .ok (.iconst (-1), 1) := by decide +kernel
theorem dX8_hold_9 : decode cX8_hold 9 = .ok (.ireturn, 1) := by decide +kernel
theorem dX8_hold_10 : decode cX8_hold 10 = .ok (.aload_n 0, 1) := by decide +kernel
theorem dX8_hold_11 : decode cX8_hold 11 = .ok (.invokevirtual 141, 3) := by decide +kernel
theorem dX8_hold_14 : decode cX8_hold 14 = .ok (.aload_n 0, 1) := by decide +kernel
theorem dX8_hold_15 : decode cX8_hold 15 = .ok (.getfield 19, 3) := by decide +kernel
theorem dX8_hold_18 : decode cX8_hold 18 = .ok (.bipush 24, 2) := by decide +kernel
theorem dX8_hold_20 : decode cX8_hold 20 = .ok (.dup2, 1) := by decide +kernel
theorem dX8_hold_21 : decode cX8_hold 21 = .ok (.iaload, 1) := by decide +kernel
theorem dX8_hold_22 : decode cX8_hold 22 = .ok (.iconst 1, 1) := by decide +kernel
theorem dX8_hold_23 : decode cX8_hold 23 = .ok (.iload_n 1, 1) := by decide +kernel
theorem dX8_hold_24 : decode cX8_hold 24 = .ok (.ishl, 1) := by decide +kernel
theorem dX8_hold_25 : decode cX8_hold 25 = .ok (.ixor, 1) := by decide +kernel
theorem dX8_hold_26 : decode cX8_hold 26 = .ok (.iastore, 1) := by decide +kernel
theorem dX8_hold_27 : decode cX8_hold 27 = .ok (.aload_n 0, 1) := by decide +kernel
theorem dX8_hold_28 : decode cX8_hold 28 = .ok (.getfield 19, 3) := by decide +kernel
theorem dX8_hold_31 : decode cX8_hold 31 = .ok (.bipush 24, 2) := by decide +kernel
theorem dX8_hold_33 : decode cX8_hold 33 = .ok (.iaload, 1) := by decide +kernel
theorem dX8_hold_34 : decode cX8_hold 34 = .ok (.iload_n 1, 1) := by decide +kernel
theorem dX8_hold_35 : decode cX8_hold 35 = .ok (.ishr, 1) := by decide +kernel
theorem dX8_hold_36 : decode cX8_hold 36 = .ok (.iconst 1, 1) := by decide +kernel
theorem dX8_hold_37 : decode cX8_hold 37 = .ok (.iand, 1) := by decide +kernel
theorem dX8_hold_38 : decode cX8_hold 38 = .ok (.ireturn, 1) := by decide +kernel
theorem dX8_undo_0 : decode cX8_undo 0 = .ok (.aload_n 0, 1) := by decide +kernel
theorem dX8_undo_1 : decode cX8_undo 1 = .ok (.getfield 112, 3) := by decide +kernel
theorem dX8_undo_4 : decode cX8_undo 4 = .ok (.ifCond .ne 6, 3) := by decide +kernel
theorem dX8_undo_7 : decode cX8_undo 7 = .ok (.bipush (-3), 2) := by decide +kernel
theorem dX8_undo_9 : decode cX8_undo 9 = .ok (.ireturn, 1) := by decide +kernel
theorem dX8_undo_10 : decode cX8_undo 10 = .ok (.aload_n 0, 1) := by decide +kernel
theorem dX8_undo_11 : decode cX8_undo 11 = .ok (.dup, 1) := by decide +kernel
theorem dX8_undo_12 : decode cX8_undo 12 = .ok (.getfield 112, 3) := by decide +kernel
theorem dX8_undo_15 : decode cX8_undo 15 = .ok (.iconst 1, 1) := by decide +kernel
theorem dX8_undo_16 : decode cX8_undo 16 = .ok (.isub, 1) := by decide +kernel
theorem dX8_undo_17 : decode cX8_undo 17 = .ok (.putfield 112, 3) := by decide +kernel
theorem dX8_undo_20 : decode cX8_undo 20 = .ok (.aload_n 0, 1) := by decide +kernel
theorem dX8_undo_21 : decode cX8_undo 21 = .ok (.aload_n 0, 1) := by decide +kernel
theorem dX8_undo_22 : decode cX8_undo 22 = .ok (.getfield 138, 3) := by decide +kernel
theorem dX8_undo_25 : decode cX8_undo 25 = .ok (.bipush 13, 2) := by decide +kernel
theorem dX8_undo_27 : decode cX8_undo 27 = .ok (.iadd, 1) := by decide +kernel
theorem dX8_undo_28 : decode cX8_undo 28 = .ok (.bipush 14, 2) := by decide +kernel
theorem dX8_undo_30 : decode cX8_undo 30 = .ok (.irem, 1) := by decide +kernel
theorem dX8_undo_31 : decode cX8_undo 31 = .ok (.putfield 138, 3) := by decide +kernel
theorem dX8_undo_34 : decode cX8_undo 34 = .ok (.iconst 0, 1) := by decide +kernel
theorem dX8_undo_35 : decode cX8_undo 35 = .ok (.istore_n 1, 1) := by decide +kernel
theorem dX8_undo_36 : decode cX8_undo 36 = .ok (.iload_n 1, 1) := by decide +kernel
theorem dX8_undo_37 : decode cX8_undo 37 = .ok (.bipush 27, 2) := by decide +kernel
theorem dX8_undo_39 : decode cX8_undo 39 = .ok (.if_icmp .ge 29, 3) := by decide +kernel
theorem dX8_undo_42 : decode cX8_undo 42 = .ok (.aload_n 0, 1) := by decide +kernel
theorem dX8_undo_43 : decode cX8_undo 43 = .ok (.getfield 19, 3) := by decide +kernel
theorem dX8_undo_46 : decode cX8_undo 46 = .ok (.iload_n 1, 1) := by decide +kernel
theorem dX8_undo_47 : decode cX8_undo 47 = .ok (.aload_n 0, 1) := by decide +kernel
theorem dX8_undo_48 : decode cX8_undo 48 = .ok (.getfield 37, 3) := by decide +kernel
theorem dX8_undo_51 : decode cX8_undo 51 = .ok (.bipush 27, 2) := by decide +kernel
theorem dX8_undo_53 : decode cX8_undo 53 = .ok (.aload_n 0, 1) := by decide +kernel
theorem dX8_undo_54 : decode cX8_undo 54 = .ok (.getfield 138, 3) := by decide +kernel
theorem dX8_undo_57 : decode cX8_undo 57 = .ok (.imul, 1) := by decide +kernel
theorem dX8_undo_58 : decode cX8_undo 58 = .ok (.iload_n 1, 1) := by decide +kernel
theorem dX8_undo_59 : decode cX8_undo 59 = .ok (.iadd, 1) := by decide +kernel
theorem dX8_undo_60 : decode cX8_undo 60 = .ok (.iaload, 1) := by decide +kernel
theorem dX8_undo_61 : decode cX8_undo 61 = .ok (.iastore, 1) := by decide +kernel
theorem dX8_undo_62 : decode cX8_undo 62 = .ok (.iinc 1 1, 3) := by decide +kernel
theorem dX8_undo_65 : decode cX8_undo 65 = .ok (.goto (-29), 3) := by decide +kernel
theorem dX8_undo_68 : decode cX8_undo 68 = .ok (.aload_n 0, 1) := by decide +kernel
theorem dX8_undo_69 : decode cX8_undo 69 = .ok (.getfield 112, 3) := by decide +kernel
theorem dX8_undo_72 : decode cX8_undo 72 = .ok (.ireturn, 1) := by decide +kernel
set_option maxRecDepth 20000 in
theorem ggX8_underOf_X8_pointsBy : GoodIn wsX8_underOf wsX8_pointsBy := goodIn_r _ [5, 6, 7, 8, 9, 10, 4, 11, 12, 13, 14, 15, 16, 17, 18, 19, 20, 30, 31, 32, 33, 34, 35, 36, 37, 38, 39, 40, 41, 42, 43, 44, 45, 46, 47, 48, 49, 50, 51, 52, 53, 54, 55, 56, 57, 58, 59, 60] (by decide +kernel) (by decide +kernel)
set_option maxRecDepth 20000 in
theorem gX8_underOf_X8_pointsBy : GoodIn wsX8_underOf (wsV RX8 127 RX8 yX8_pointsBy wsX8_pointsBy) := goodIn_app (goodIn_of _ (by decide +kernel)) ggX8_underOf_X8_pointsBy
set_option maxRecDepth 20000 in
theorem ggX8_underOf_X8_brookBy : GoodIn wsX8_underOf wsX8_brookBy := goodIn_r _ [24, 6, 25, 26, 27, 4, 28, 7, 29, 9, 10, 11, 30, 31, 32, 33, 34, 35, 36, 37, 38, 39, 40, 41, 42, 43, 44, 45, 46, 47, 48, 49, 50, 51, 52, 53, 54, 55, 56, 57, 58, 59, 60] (by decide +kernel) (by decide +kernel)
set_option maxRecDepth 20000 in
theorem gX8_underOf_X8_brookBy : GoodIn wsX8_underOf (wsV RX8 130 RX8 yX8_brookBy wsX8_brookBy) := goodIn_app (goodIn_of _ (by decide +kernel)) ggX8_underOf_X8_brookBy
theorem dX8_underOf_0 : decode cX8_underOf 0 = .ok (.aload_n 0, 1) := by decide +kernel
theorem dX8_underOf_1 : decode cX8_underOf 1 = .ok (.iload_n 1, 1) := by decide +kernel
theorem dX8_underOf_2 : decode cX8_underOf 2 = .ok (.aload_n 0, 1) := by decide +kernel
theorem dX8_underOf_3 : decode cX8_underOf 3 = .ok (.iload_n 1, 1) := by decide +kernel
theorem dX8_underOf_4 : decode cX8_underOf 4 = .ok (.iload_n 2, 1) := by decide +kernel
theorem dX8_underOf_5 : decode cX8_underOf 5 = .ok (.iload_n 3, 1) := by decide +kernel
theorem dX8_underOf_6 : decode cX8_underOf 6 = .ok (.invokevirtual 127, 3) := by decide +kernel
theorem dX8_underOf_9 : decode cX8_underOf 9 = .ok (.invokevirtual 130, 3) := by decide +kernel
theorem dX8_underOf_12 : decode cX8_underOf 12 = .ok (.ireturn, 1) := by decide +kernel
set_option maxRecDepth 20000 in
theorem ggX8_under_X8_isWind : GoodIn wsX8_under wsX8_isWind := goodIn_r _ [6, 7, 8, 9, 5, 10, 39, 40, 41, 42, 43, 44, 45, 46, 47, 48, 49, 50, 51, 52, 53, 54, 55, 56, 57, 58, 59, 60, 61, 62, 63, 64, 65, 66, 67, 68, 69] (by decide +kernel) (by decide +kernel)
set_option maxRecDepth 20000 in
theorem gX8_under_X8_isWind : GoodIn wsX8_under (wsV RX8 133 RX8 yX8_isWind wsX8_isWind) := goodIn_app (goodIn_of _ (by decide +kernel)) ggX8_under_X8_isWind
set_option maxRecDepth 20000 in
theorem ggX8_under_X8_underOf : GoodIn wsX8_under wsX8_underOf := goodIn_r _ [14, 15, 16, 17, 5, 18, 1, 19, 20, 21, 22, 23, 24, 25, 26, 27, 28, 29, 8, 9, 10, 30, 31, 32, 33, 34, 35, 36, 37, 38, 39, 40, 41, 42, 43, 44, 45, 46, 47, 48, 49, 50, 51, 52, 53, 54, 55, 56, 57, 58, 59, 60, 61, 62, 63, 64, 65, 66, 67, 68, 69] (by decide +kernel) (by decide +kernel)
set_option maxRecDepth 20000 in
theorem gX8_under_X8_underOf : GoodIn wsX8_under (wsV RX8 151 RX8 yX8_underOf wsX8_underOf) := goodIn_app (goodIn_of _ (by decide +kernel)) ggX8_under_X8_underOf
theorem dX8_under_0 : decode cX8_under 0 = .ok (.aload_n 0, 1) := by decide +kernel
theorem dX8_under_1 : decode cX8_under 1 = .ok (.iload_n 1, 1) := by decide +kernel
theorem dX8_under_2 : decode cX8_under 2 = .ok (.invokevirtual 133, 3) := by decide +kernel
theorem dX8_under_5 : decode cX8_under 5 = .ok (.ifCond .eq 19, 3) := by decide +kernel
theorem dX8_under_8 : decode cX8_under 8 = .ok (.aload_n 0, 1) := by decide +kernel
theorem dX8_under_9 : decode cX8_under 9 = .ok (.iconst 0, 1) := by decide +kernel
theorem dX8_under_10 : decode cX8_under 10 = .ok (.iload_n 1, 1) := by decide +kernel
theorem dX8_under_11 : decode cX8_under 11 = .ok (.aload_n 0, 1) := by decide +kernel
theorem dX8_under_12 : decode cX8_under 12 = .ok (.getfield 19, 3) := by decide +kernel
theorem dX8_under_15 : decode cX8_under 15 = .ok (.bipush 24, 2) := by decide +kernel
theorem dX8_under_17 : decode cX8_under 17 = .ok (.iaload, 1) := by decide +kernel
theorem dX8_under_18 : decode cX8_under 18 = .ok (.invokevirtual 151, 3) := by decide +kernel
theorem dX8_under_21 : decode cX8_under 21 = .ok (.goto 4, 3) := by decide +kernel
theorem dX8_under_24 : decode cX8_under 24 = .ok (.iconst (-1), 1) := by decide +kernel
theorem dX8_under_25 : decode cX8_under 25 = .ok (.ireturn, 1) := by decide +kernel
set_option maxRecDepth 20000 in
theorem ggX8_yearOf_X8_underOf : GoodIn wsX8_yearOf wsX8_underOf := goodIn_r _ [8, 9, 10, 11, 7, 12, 2, 13, 3, 14, 15, 16, 17, 18, 19, 20, 21, 22, 23, 24, 25, 26, 27, 28, 29, 30, 31, 32, 33, 34, 35, 36, 37, 38, 39, 40, 41, 42, 43, 44, 45, 46, 47, 48, 49, 50, 51, 52, 53, 54, 55, 56, 57, 58, 59, 60, 61, 62, 63, 64, 65] (by decide +kernel) (by decide +kernel)
set_option maxRecDepth 20000 in
theorem gX8_yearOf_X8_underOf : GoodIn wsX8_yearOf (wsV RX8 151 RX8 yX8_underOf wsX8_underOf) := goodIn_app (goodIn_of _ (by decide +kernel)) ggX8_yearOf_X8_underOf
theorem dX8_yearOf_0 : decode cX8_yearOf 0 = .ok (.iconst 0, 1) := by decide +kernel
theorem dX8_yearOf_1 : decode cX8_yearOf 1 = .ok (.istore_n 2, 1) := by decide +kernel
theorem dX8_yearOf_2 : decode cX8_yearOf 2 = .ok (.iconst 0, 1) := by decide +kernel
theorem dX8_yearOf_3 : decode cX8_yearOf 3 = .ok (.istore_n 3, 1) := by decide +kernel
theorem dX8_yearOf_4 : decode cX8_yearOf 4 = .ok (.iload_n 3, 1) := by decide +kernel
theorem dX8_yearOf_5 : decode cX8_yearOf 5 = .ok (.aload_n 0, 1) := by decide +kernel
theorem dX8_yearOf_6 : decode cX8_yearOf 6 = .ok (.getfield 109, 3) := by decide +kernel
theorem dX8_yearOf_9 : decode cX8_yearOf 9 = .ok (.if_icmp .ge 43, 3) := by decide +kernel
theorem dX8_yearOf_12 : decode cX8_yearOf 12 = .ok (.iload_n 2, 1) := by decide +kernel
theorem dX8_yearOf_13 : decode cX8_yearOf 13 = .ok (.aload_n 0, 1) := by decide +kernel
theorem dX8_yearOf_14 : decode cX8_yearOf 14 = .ok (.iconst 0, 1) := by decide +kernel
theorem dX8_yearOf_15 : decode cX8_yearOf 15 = .ok (.iload_n 3, 1) := by decide +kernel
theorem dX8_yearOf_16 : decode cX8_yearOf 16 = .ok (.aload_n 0, 1) := by decide +kernel
theorem dX8_yearOf_17 : decode cX8_yearOf 17 = .ok (.getfield 19, 3) := by decide +kernel
theorem dX8_yearOf_20 : decode cX8_yearOf 20 = .ok (.bipush 24, 2) := by decide +kernel
theorem dX8_yearOf_22 : decode cX8_yearOf 22 = .ok (.iaload, 1) := by decide +kernel
theorem dX8_yearOf_23 : decode cX8_yearOf 23 = .ok (.invokevirtual 151, 3) := by decide +kernel
theorem dX8_yearOf_26 : decode cX8_yearOf 26 = .ok (.iload_n 1, 1) := by decide +kernel
theorem dX8_yearOf_27 : decode cX8_yearOf 27 = .ok (.if_icmp .ne 16, 3) := by decide +kernel
theorem dX8_yearOf_30 : decode cX8_yearOf 30 = .ok (.aload_n 0, 1) := by decide +kernel
theorem dX8_yearOf_31 : decode cX8_yearOf 31 = .ok (.getfield 16, 3) := by decide +kernel
theorem dX8_yearOf_34 : decode cX8_yearOf 34 = .ok (.iconst 3, 1) := by decide +kernel
theorem dX8_yearOf_35 : decode cX8_yearOf 35 = .ok (.iload_n 3, 1) := by decide +kernel
theorem dX8_yearOf_36 : decode cX8_yearOf 36 = .ok (.imul, 1) := by decide +kernel
theorem dX8_yearOf_37 : decode cX8_yearOf 37 = .ok (.iconst 2, 1) := by decide +kernel
theorem dX8_yearOf_38 : decode cX8_yearOf 38 = .ok (.iadd, 1) := by decide +kernel
theorem dX8_yearOf_39 : decode cX8_yearOf 39 = .ok (.iaload, 1) := by decide +kernel
theorem dX8_yearOf_40 : decode cX8_yearOf 40 = .ok (.goto 4, 3) := by decide +kernel
theorem dX8_yearOf_43 : decode cX8_yearOf 43 = .ok (.iconst 0, 1) := by decide +kernel
theorem dX8_yearOf_44 : decode cX8_yearOf 44 = .ok (.iadd, 1) := by decide +kernel
theorem dX8_yearOf_45 : decode cX8_yearOf 45 = .ok (.istore_n 2, 1) := by decide +kernel
theorem dX8_yearOf_46 : decode cX8_yearOf 46 = .ok (.iinc 3 1, 3) := by decide +kernel
theorem dX8_yearOf_49 : decode cX8_yearOf 49 = .ok (.goto (-45), 3) := by decide +kernel
theorem dX8_yearOf_52 : decode cX8_yearOf 52 = .ok (.iload_n 2, 1) := by decide +kernel
theorem dX8_yearOf_53 : decode cX8_yearOf 53 = .ok (.ireturn, 1) := by decide +kernel
set_option maxRecDepth 20000 in
theorem ggX8_year_X8_in : GoodIn wsX8_year wsX8_in := goodIn_r _ [4] (by decide +kernel) (by decide +kernel)
set_option maxRecDepth 20000 in
theorem gX8_year_X8_in : GoodIn wsX8_year (va_wsS RX8 59 yX8_in wsX8_in) := goodIn_app (goodIn_of _ (by decide +kernel)) ggX8_year_X8_in
set_option maxRecDepth 20000 in
theorem ggX8_year_X8_yearOf : GoodIn wsX8_year wsX8_yearOf := goodIn_r _ [8, 9, 10, 11, 12, 13, 14, 3, 15, 16, 17, 18, 19, 20, 21, 22, 23, 24, 25, 26, 27, 28, 29, 1, 2, 4, 30, 31, 32, 33, 34, 35, 36, 37, 38, 39, 40, 41, 42, 43, 44, 45, 46, 47, 48, 49, 50, 51, 52, 53, 54, 55, 56, 57, 58, 59, 60, 61, 62, 63, 64, 65, 66, 67, 68, 69] (by decide +kernel) (by decide +kernel)
set_option maxRecDepth 20000 in
theorem gX8_year_X8_yearOf : GoodIn wsX8_year (wsV RX8 154 RX8 yX8_yearOf wsX8_yearOf) := goodIn_app (goodIn_of _ (by decide +kernel)) ggX8_year_X8_yearOf
theorem dX8_year_0 : decode cX8_year 0 = .ok (.iload_n 1, 1) := by decide +kernel
theorem dX8_year_1 : decode cX8_year 1 = .ok (.i2l, 1) := by decide +kernel
theorem dX8_year_2 : decode cX8_year 2 = .ok (.lconst 0, 1) := by decide +kernel
theorem dX8_year_3 : decode cX8_year 3 = .ok (.lconst 1, 1) := by decide +kernel
theorem dX8_year_4 : decode cX8_year 4 = .ok (.invokestatic 59, 3) := by decide +kernel
theorem dX8_year_7 : decode cX8_year 7 = .ok (.ifCond .eq 11, 3) := by decide +kernel
theorem dX8_year_10 : decode cX8_year 10 = .ok (.aload_n 0, 1) := by decide +kernel
theorem dX8_year_11 : decode cX8_year 11 = .ok (.iload_n 1, 1) := by decide +kernel
theorem dX8_year_12 : decode cX8_year 12 = .ok (.invokevirtual 154, 3) := by decide +kernel
theorem dX8_year_15 : decode cX8_year 15 = .ok (.goto 5, 3) := by decide +kernel
theorem dX8_year_18 : decode cX8_year 18 = .ok (.bipush (-2), 2) := by decide +kernel
theorem dX8_year_20 : decode cX8_year 20 = .ok (.ireturn, 1) := by decide +kernel
set_option maxRecDepth 20000 in
theorem ggX8_tryTrees_X8_yearOf : GoodIn wsX8_tryTrees wsX8_yearOf := goodIn_r _ [10, 11, 1, 12, 13, 14, 15, 9, 16, 17, 18, 19, 20, 21, 22, 23, 24, 25, 26, 27, 28, 29, 30, 31, 32, 33, 34, 35, 36, 37, 38, 39, 40, 41, 42, 43, 44, 45, 46, 47, 48, 49, 50, 51, 52, 53, 54, 55, 56, 57, 58, 59, 60, 61, 62, 63, 64, 65, 66, 67, 68, 69, 70, 71, 72, 73] (by decide +kernel) (by decide +kernel)
set_option maxRecDepth 20000 in
theorem gX8_tryTrees_X8_yearOf : GoodIn wsX8_tryTrees (wsV RX8 154 RX8 yX8_yearOf wsX8_yearOf) := goodIn_app (goodIn_of _ (by decide +kernel)) ggX8_tryTrees_X8_yearOf
theorem dX8_tryTrees_0 : decode cX8_tryTrees 0 = .ok (.iconst (-1), 1) := by decide +kernel
theorem dX8_tryTrees_1 : decode cX8_tryTrees 1 = .ok (.istore 4, 2) := by decide +kernel
theorem dX8_tryTrees_3 : decode cX8_tryTrees 3 = .ok (.iload 4, 2) := by decide +kernel
theorem dX8_tryTrees_5 : decode cX8_tryTrees 5 = .ok (.bipush 10, 2) := by decide +kernel
theorem dX8_tryTrees_7 : decode cX8_tryTrees 7 = .ok (.if_icmp .ge 140, 3) := by decide +kernel
theorem dX8_tryTrees_10 : decode cX8_tryTrees 10 = .ok (.iload 4, 2) := by decide +kernel
theorem dX8_tryTrees_12 : decode cX8_tryTrees 12 = .ok (.ifCond .ge 7, 3) := by decide +kernel
theorem dX8_tryTrees_15 : decode cX8_tryTrees 15 = .ok (.iconst 0, 1) := by decide +kernel
theorem dX8_tryTrees_16 : decode cX8_tryTrees 16 = .ok (.goto 13, 3) := by decide +kernel
theorem dX8_tryTrees_19 : decode cX8_tryTrees 19 = .ok (.aload_n 0, 1) := by decide +kernel
theorem dX8_tryTrees_20 : decode cX8_tryTrees 20 = .ok (.getfield 19, 3) := by decide +kernel
theorem dX8_tryTrees_23 : decode cX8_tryTrees 23 = .ok (.bipush 12, 2) := by decide +kernel
theorem dX8_tryTrees_25 : decode cX8_tryTrees 25 = .ok (.iload 4, 2) := by decide +kernel
theorem dX8_tryTrees_27 : decode cX8_tryTrees 27 = .ok (.iadd, 1) := by decide +kernel
theorem dX8_tryTrees_28 : decode cX8_tryTrees 28 = .ok (.iaload, 1) := by decide +kernel
theorem dX8_tryTrees_29 : decode cX8_tryTrees 29 = .ok (.istore 5, 2) := by decide +kernel
theorem dX8_tryTrees_31 : decode cX8_tryTrees 31 = .ok (.iload 4, 2) := by decide +kernel
theorem dX8_tryTrees_33 : decode cX8_tryTrees 33 = .ok (.ifCond .lt 8, 3) := by decide +kernel
theorem dX8_tryTrees_36 : decode cX8_tryTrees 36 = .ok (.iload 5, 2) := by decide +kernel
theorem dX8_tryTrees_38 : decode cX8_tryTrees 38 = .ok (.ifCond .le 103, 3) := by decide +kernel
theorem dX8_tryTrees_41 : decode cX8_tryTrees 41 = .ok (.bipush 12, 2) := by decide +kernel
theorem dX8_tryTrees_43 : decode cX8_tryTrees 43 = .ok (.iload 4, 2) := by decide +kernel
theorem dX8_tryTrees_45 : decode cX8_tryTrees 45 = .ok (.ifCond .ge 7, 3) := by decide +kernel
theorem dX8_tryTrees_48 : decode cX8_tryTrees 48 = .ok (.iconst 0, 1) := by decide +kernel
theorem dX8_tryTrees_49 : decode cX8_tryTrees 49 = .ok (.goto 5, 3) := by decide +kernel
theorem dX8_tryTrees_52 : decode cX8_tryTrees 52 = .ok (.iload 4, 2) := by decide +kernel
theorem dX8_tryTrees_54 : decode cX8_tryTrees 54 = .ok (.iadd, 1) := by decide +kernel
theorem dX8_tryTrees_55 : decode cX8_tryTrees 55 = .ok (.istore 6, 2) := by decide +kernel
theorem dX8_tryTrees_57 : decode cX8_tryTrees 57 = .ok (.aload_n 0, 1) := by decide +kernel
theorem dX8_tryTrees_58 : decode cX8_tryTrees 58 = .ok (.getfield 19, 3) := by decide +kernel
theorem dX8_tryTrees_61 : decode cX8_tryTrees 61 = .ok (.iload 6, 2) := by decide +kernel
theorem dX8_tryTrees_63 : decode cX8_tryTrees 63 = .ok (.iaload, 1) := by decide +kernel
theorem dX8_tryTrees_64 : decode cX8_tryTrees 64 = .ok (.istore 7, 2) := by decide +kernel
theorem dX8_tryTrees_66 : decode cX8_tryTrees 66 = .ok (.aload_n 0, 1) := by decide +kernel
theorem dX8_tryTrees_67 : decode cX8_tryTrees 67 = .ok (.getfield 19, 3) := by decide +kernel
theorem dX8_tryTrees_70 : decode cX8_tryTrees 70 = .ok (.iload 6, 2) := by decide +kernel
theorem dX8_tryTrees_72 : decode cX8_tryTrees 72 = .ok (.iload 4, 2) := by decide +kernel
theorem dX8_tryTrees_74 : decode cX8_tryTrees 74 = .ok (.ifCond .ge 8, 3) := by decide +kernel
theorem dX8_tryTrees_77 : decode cX8_tryTrees 77 = .ok (.iload 7, 2) := by decide +kernel
theorem dX8_tryTrees_79 : decode cX8_tryTrees 79 = .ok (.goto 4, 3) := by decide +kernel
theorem dX8_tryTrees_82 : decode cX8_tryTrees 82 = .ok (.iconst 0, 1) := by decide +kernel
theorem dX8_tryTrees_83 : decode cX8_tryTrees 83 = .ok (.iastore, 1) := by decide +kernel
theorem dX8_tryTrees_84 : decode cX8_tryTrees 84 = .ok (.aload_n 0, 1) := by decide +kernel
theorem dX8_tryTrees_85 : decode cX8_tryTrees 85 = .ok (.iload_n 1, 1) := by decide +kernel
theorem dX8_tryTrees_86 : decode cX8_tryTrees 86 = .ok (.invokevirtual 154, 3) := by decide +kernel
theorem dX8_tryTrees_89 : decode cX8_tryTrees 89 = .ok (.istore 8, 2) := by decide +kernel
theorem dX8_tryTrees_91 : decode cX8_tryTrees 91 = .ok (.aload_n 0, 1) := by decide +kernel
theorem dX8_tryTrees_92 : decode cX8_tryTrees 92 = .ok (.getfield 19, 3) := by decide +kernel
theorem dX8_tryTrees_95 : decode cX8_tryTrees 95 = .ok (.iload 6, 2) := by decide +kernel
theorem dX8_tryTrees_97 : decode cX8_tryTrees 97 = .ok (.iload 7, 2) := by decide +kernel
theorem dX8_tryTrees_99 : decode cX8_tryTrees 99 = .ok (.iastore, 1) := by decide +kernel
theorem dX8_tryTrees_100 : decode cX8_tryTrees 100 = .ok (.iload 8, 2) := by decide +kernel
theorem dX8_tryTrees_102 : decode cX8_tryTrees 102 = .ok (.aload_n 0, 1) := by decide +kernel
theorem dX8_tryTrees_103 : decode cX8_tryTrees 103 = .ok (.getfield 157, 3) := by decide +kernel
theorem dX8_tryTrees_106 : decode cX8_tryTrees 106 = .ok (.if_icmp .le 35, 3) := by decide +kernel
theorem dX8_tryTrees_109 : decode cX8_tryTrees 109 = .ok (.aload_n 0, 1) := by decide +kernel
theorem dX8_tryTrees_110 : decode cX8_tryTrees 110 = .ok (.iload 8, 2) := by decide +kernel
theorem dX8_tryTrees_112 : decode cX8_tryTrees 112 = .ok (.putfield 157, 3) := by decide +kernel
theorem dX8_tryTrees_115 : decode cX8_tryTrees 115 = .ok (.aload_n 0, 1) := by decide +kernel
theorem dX8_tryTrees_116 : decode cX8_tryTrees 116 = .ok (.iload_n 2, 1) := by decide +kernel
theorem dX8_tryTrees_117 : decode cX8_tryTrees 117 = .ok (.putfield 160, 3) := by decide +kernel
theorem dX8_tryTrees_120 : decode cX8_tryTrees 120 = .ok (.aload_n 0, 1) := by decide +kernel
theorem dX8_tryTrees_121 : decode cX8_tryTrees 121 = .ok (.iload_n 3, 1) := by decide +kernel
theorem dX8_tryTrees_122 : decode cX8_tryTrees 122 = .ok (.putfield 163, 3) := by decide +kernel
theorem dX8_tryTrees_125 : decode cX8_tryTrees 125 = .ok (.aload_n 0, 1) := by decide +kernel
theorem dX8_tryTrees_126 : decode cX8_tryTrees 126 = .ok (.iload 4, 2) := by decide +kernel
theorem dX8_tryTrees_128 : decode cX8_tryTrees 128 = .ok (.ifCond .ge 8, 3) := by decide +kernel
theorem dX8_tryTrees_131 : decode cX8_tryTrees 131 = .ok (.bipush (-9), 2) := by decide +kernel
theorem dX8_tryTrees_133 : decode cX8_tryTrees 133 = .ok (.goto 5, 3) := by decide +kernel
theorem dX8_tryTrees_136 : decode cX8_tryTrees 136 = .ok (.iload 4, 2) := by decide +kernel
theorem dX8_tryTrees_138 : decode cX8_tryTrees 138 = .ok (.putfield 166, 3) := by decide +kernel
theorem dX8_tryTrees_141 : decode cX8_tryTrees 141 = .ok (.iinc 4 1, 3) := by decide +kernel
theorem dX8_tryTrees_144 : decode cX8_tryTrees 144 = .ok (.goto (-141), 3) := by decide +kernel
theorem dX8_tryTrees_147 : decode cX8_tryTrees 147 = .ok (.return_, 1) := by decide +kernel
set_option maxRecDepth 20000 in
theorem ggX8_placing_X8_in : GoodIn wsX8_placing wsX8_in := goodIn_r _ [11] (by decide +kernel) (by decide +kernel)
set_option maxRecDepth 20000 in
theorem gX8_placing_X8_in : GoodIn wsX8_placing (va_wsS RX8 59 yX8_in wsX8_in) := goodIn_app (goodIn_of _ (by decide +kernel)) ggX8_placing_X8_in
set_option maxRecDepth 20000 in
theorem ggX8_placing_X8_tryTrees : GoodIn wsX8_placing wsX8_tryTrees := goodIn_r _ [15, 4, 2, 5, 6, 7, 16, 17, 18, 10, 19, 20, 21, 22, 23, 24, 25, 26, 27, 28, 29, 3, 30, 31, 32, 33, 34, 35, 36, 37, 38, 8, 9, 11, 39, 40, 41, 42, 43, 44, 45, 46, 47, 52, 53, 54, 55, 56, 57, 58, 59, 60, 61, 62, 63, 64, 65, 66, 67, 68, 69, 70, 71, 72, 73, 74, 75, 76, 77, 78, 79, 80, 81, 82] (by decide +kernel) (by decide +kernel)
set_option maxRecDepth 20000 in
theorem gX8_placing_X8_tryTrees : GoodIn wsX8_placing (wsV RX8 171 RX8 yX8_tryTrees wsX8_tryTrees) := goodIn_app (goodIn_of _ (by decide +kernel)) ggX8_placing_X8_tryTrees
set_option maxRecDepth 20000 in
theorem ggX8_placing_X8_isCockOn : GoodIn wsX8_placing wsX8_isCockOn := goodIn_r _ [51, 3, 4, 52, 53, 54, 55, 56, 57, 58, 59, 60, 61, 62, 63, 64, 65, 66, 67, 68, 69, 70, 71, 72, 73, 74, 75, 76, 77, 78, 79, 80, 81, 82] (by decide +kernel) (by decide +kernel)
set_option maxRecDepth 20000 in
theorem gX8_placing_X8_isCockOn : GoodIn wsX8_placing (wsV RX8 148 RX8 yX8_isCockOn wsX8_isCockOn) := goodIn_app (goodIn_of _ (by decide +kernel)) ggX8_placing_X8_isCockOn
theorem dX8_placing_0 : decode cX8_placing 0 = .ok (.iload_n 1, 1) := by decide +kernel
theorem dX8_placing_1 : decode cX8_placing 1 = .ok (.i2l, 1) := by decide +kernel
theorem dX8_placing_2 : decode cX8_placing 2 = .ok (.lconst 0, 1) := by decide +kernel
theorem dX8_placing_3 : decode cX8_placing 3 = .ok (.lconst 1, 1) := by decide +kernel
theorem dX8_placing_4 : decode cX8_placing 4 = .ok (.invokestatic 59, 3) := by decide +kernel
theorem dX8_placing_7 : decode cX8_placing 7 = .ok (.ifCond .eq 15, 3) := by decide +kernel
theorem dX8_placing_10 : decode cX8_placing 10 = .ok (.iload_n 2, 1) := by decide +kernel
theorem dX8_placing_11 : decode cX8_placing 11 = .ok (.i2l, 1) := by decide +kernel
theorem dX8_placing_12 : decode cX8_placing 12 = .ok (.lconst 0, 1) := by decide +kernel
theorem dX8_placing_13 : decode cX8_placing 13 = .ok (.ldc2_w 169, 3) := by decide +kernel
theorem dX8_placing_16 : decode cX8_placing 16 = .ok (.invokestatic 59, 3) := by decide +kernel
theorem dX8_placing_19 : decode cX8_placing 19 = .ok (.ifCond .ne 6, 3) := by decide +kernel
theorem dX8_placing_22 : decode cX8_placing 22 = .ok (.bipush (-2), 2) := by decide +kernel
theorem dX8_placing_24 : decode cX8_placing 24 = .ok (.ireturn, 1) := by decide +kernel
theorem dX8_placing_25 : decode cX8_placing 25 = .ok (.aload_n 0, 1) := by decide +kernel
theorem dX8_placing_26 : decode cX8_placing 26 = .ok (.iconst (-1), 1) := by decide +kernel
theorem dX8_placing_27 : decode cX8_placing 27 = .ok (.putfield 157, 3) := by decide +kernel
theorem dX8_placing_30 : decode cX8_placing 30 = .ok (.aload_n 0, 1) := by decide +kernel
theorem dX8_placing_31 : decode cX8_placing 31 = .ok (.iload_n 1, 1) := by decide +kernel
theorem dX8_placing_32 : decode cX8_placing 32 = .ok (.bipush (-9), 2) := by decide +kernel
theorem dX8_placing_34 : decode cX8_placing 34 = .ok (.bipush (-9), 2) := by decide +kernel
theorem dX8_placing_36 : decode cX8_placing 36 = .ok (.invokevirtual 171, 3) := by decide +kernel
theorem dX8_placing_39 : decode cX8_placing 39 = .ok (.iconst 0, 1) := by decide +kernel
theorem dX8_placing_40 : decode cX8_placing 40 = .ok (.istore_n 3, 1) := by decide +kernel
theorem dX8_placing_41 : decode cX8_placing 41 = .ok (.iload_n 3, 1) := by decide +kernel
theorem dX8_placing_42 : decode cX8_placing 42 = .ok (.aload_n 0, 1) := by decide +kernel
theorem dX8_placing_43 : decode cX8_placing 43 = .ok (.getfield 53, 3) := by decide +kernel
theorem dX8_placing_46 : decode cX8_placing 46 = .ok (.if_icmp .ge 81, 3) := by decide +kernel
theorem dX8_placing_49 : decode cX8_placing 49 = .ok (.iconst 0, 1) := by decide +kernel
theorem dX8_placing_50 : decode cX8_placing 50 = .ok (.istore 4, 2) := by decide +kernel
theorem dX8_placing_52 : decode cX8_placing 52 = .ok (.iload 4, 2) := by decide +kernel
theorem dX8_placing_54 : decode cX8_placing 54 = .ok (.bipush 10, 2) := by decide +kernel
theorem dX8_placing_56 : decode cX8_placing 56 = .ok (.if_icmp .ge 65, 3) := by decide +kernel
theorem dX8_placing_59 : decode cX8_placing 59 = .ok (.aload_n 0, 1) := by decide +kernel
theorem dX8_placing_60 : decode cX8_placing 60 = .ok (.getfield 19, 3) := by decide +kernel
theorem dX8_placing_63 : decode cX8_placing 63 = .ok (.bipush 22, 2) := by decide +kernel
theorem dX8_placing_65 : decode cX8_placing 65 = .ok (.iaload, 1) := by decide +kernel
theorem dX8_placing_66 : decode cX8_placing 66 = .ok (.iload_n 3, 1) := by decide +kernel
theorem dX8_placing_67 : decode cX8_placing 67 = .ok (.ishr, 1) := by decide +kernel
theorem dX8_placing_68 : decode cX8_placing 68 = .ok (.iconst 1, 1) := by decide +kernel
theorem dX8_placing_69 : decode cX8_placing 69 = .ok (.iand, 1) := by decide +kernel
theorem dX8_placing_70 : decode cX8_placing 70 = .ok (.iload_n 1, 1) := by decide +kernel
theorem dX8_placing_71 : decode cX8_placing 71 = .ok (.if_icmp .ne 44, 3) := by decide +kernel
theorem dX8_placing_74 : decode cX8_placing 74 = .ok (.aload_n 0, 1) := by decide +kernel
theorem dX8_placing_75 : decode cX8_placing 75 = .ok (.iload 4, 2) := by decide +kernel
theorem dX8_placing_77 : decode cX8_placing 77 = .ok (.invokevirtual 148, 3) := by decide +kernel
theorem dX8_placing_80 : decode cX8_placing 80 = .ok (.ifCond .ne 35, 3) := by decide +kernel
theorem dX8_placing_83 : decode cX8_placing 83 = .ok (.aload_n 0, 1) := by decide +kernel
theorem dX8_placing_84 : decode cX8_placing 84 = .ok (.getfield 19, 3) := by decide +kernel
theorem dX8_placing_87 : decode cX8_placing 87 = .ok (.iload_n 3, 1) := by decide +kernel
theorem dX8_placing_88 : decode cX8_placing 88 = .ok (.iaload, 1) := by decide +kernel
theorem dX8_placing_89 : decode cX8_placing 89 = .ok (.istore 5, 2) := by decide +kernel
theorem dX8_placing_91 : decode cX8_placing 91 = .ok (.aload_n 0, 1) := by decide +kernel
theorem dX8_placing_92 : decode cX8_placing 92 = .ok (.getfield 19, 3) := by decide +kernel
theorem dX8_placing_95 : decode cX8_placing 95 = .ok (.iload_n 3, 1) := by decide +kernel
theorem dX8_placing_96 : decode cX8_placing 96 = .ok (.iload 4, 2) := by decide +kernel
theorem dX8_placing_98 : decode cX8_placing 98 = .ok (.iastore, 1) := by decide +kernel
theorem dX8_placing_99 : decode cX8_placing 99 = .ok (.aload_n 0, 1) := by decide +kernel
theorem dX8_placing_100 : decode cX8_placing 100 = .ok (.iload_n 1, 1) := by decide +kernel
theorem dX8_placing_101 : decode cX8_placing 101 = .ok (.iload_n 3, 1) := by decide +kernel
theorem dX8_placing_102 : decode cX8_placing 102 = .ok (.iload 4, 2) := by decide +kernel
theorem dX8_placing_104 : decode cX8_placing 104 = .ok (.invokevirtual 171, 3) := by decide +kernel
theorem dX8_placing_107 : decode cX8_placing 107 = .ok (.aload_n 0, 1) := by decide +kernel
theorem dX8_placing_108 : decode cX8_placing 108 = .ok (.getfield 19, 3) := by decide +kernel
theorem dX8_placing_111 : decode cX8_placing 111 = .ok (.iload_n 3, 1) := by decide +kernel
theorem dX8_placing_112 : decode cX8_placing 112 = .ok (.iload 5, 2) := by decide +kernel
theorem dX8_placing_114 : decode cX8_placing 114 = .ok (.iastore, 1) := by decide +kernel
theorem dX8_placing_115 : decode cX8_placing 115 = .ok (.iinc 4 1, 3) := by decide +kernel
theorem dX8_placing_118 : decode cX8_placing 118 = .ok (.goto (-66), 3) := by decide +kernel
theorem dX8_placing_121 : decode cX8_placing 121 = .ok (.iinc 3 1, 3) := by decide +kernel
theorem dX8_placing_124 : decode cX8_placing 124 = .ok (.goto (-83), 3) := by decide +kernel
theorem dX8_placing_127 : decode cX8_placing 127 = .ok (.iload_n 2, 1) := by decide +kernel
theorem dX8_placing_128 : decode cX8_placing 128 = .ok (.ifCond .ne 10, 3) := by decide +kernel
theorem dX8_placing_131 : decode cX8_placing 131 = .ok (.aload_n 0, 1) := by decide +kernel
theorem dX8_placing_132 : decode cX8_placing 132 = .ok (.getfield 157, 3) := by decide +kernel
theorem dX8_placing_135 : decode cX8_placing 135 = .ok (.goto 31, 3) := by decide +kernel
theorem dX8_placing_138 : decode cX8_placing 138 = .ok (.iload_n 2, 1) := by decide +kernel
theorem dX8_placing_139 : decode cX8_placing 139 = .ok (.iconst 1, 1) := by decide +kernel
theorem dX8_placing_140 : decode cX8_placing 140 = .ok (.if_icmp .ne 10, 3) := by decide +kernel
theorem dX8_placing_143 : decode cX8_placing 143 = .ok (.aload_n 0, 1) := by decide +kernel
theorem dX8_placing_144 : decode cX8_placing 144 = .ok (.getfield 160, 3) := by decide +kernel
theorem dX8_placing_147 : decode cX8_placing 147 = .ok (.goto 19, 3) := by decide +kernel
theorem dX8_placing_150 : decode cX8_placing 150 = .ok (.iload_n 2, 1) := by decide +kernel
theorem dX8_placing_151 : decode cX8_placing 151 = .ok (.iconst 2, 1) := by decide +kernel
theorem dX8_placing_152 : decode cX8_placing 152 = .ok (.if_icmp .ne 10, 3) := by decide +kernel
theorem dX8_placing_155 : decode cX8_placing 155 = .ok (.aload_n 0, 1) := by decide +kernel
theorem dX8_placing_156 : decode cX8_placing 156 = .ok (.getfield 163, 3) := by decide +kernel
theorem dX8_placing_159 : decode cX8_placing 159 = .ok (.goto 7, 3) := by decide +kernel
theorem dX8_placing_162 : decode cX8_placing 162 = .ok (.aload_n 0, 1) := by decide +kernel
theorem dX8_placing_163 : decode cX8_placing 163 = .ok (.getfield 166, 3) := by decide +kernel
theorem dX8_placing_166 : decode cX8_placing 166 = .ok (.ireturn, 1) := by decide +kernel
theorem dX8_layTrial_0 : decode cX8_layTrial 0 = .ok (.iconst 0, 1) := by decide +kernel
theorem dX8_layTrial_1 : decode cX8_layTrial 1 = .ok (.istore_n 1, 1) := by decide +kernel
theorem dX8_layTrial_2 : decode cX8_layTrial 2 = .ok (.iload_n 1, 1) := by decide +kernel
theorem dX8_layTrial_3 : decode cX8_layTrial 3 = .ok (.bipush 27, 2) := by decide +kernel
theorem dX8_layTrial_5 : decode cX8_layTrial 5 = .ok (.if_icmp .ge 24, 3) := by decide +kernel
theorem dX8_layTrial_8 : decode cX8_layTrial 8 = .ok (.aload_n 0, 1) := by decide +kernel
theorem dX8_layTrial_9 : decode cX8_layTrial 9 = .ok (.getfield 19, 3) := by decide +kernel
theorem dX8_layTrial_12 : decode cX8_layTrial 12 = .ok (.bipush 27, 2) := by decide +kernel
theorem dX8_layTrial_14 : decode cX8_layTrial 14 = .ok (.iload_n 1, 1) := by decide +kernel
theorem dX8_layTrial_15 : decode cX8_layTrial 15 = .ok (.iadd, 1) := by decide +kernel
theorem dX8_layTrial_16 : decode cX8_layTrial 16 = .ok (.aload_n 0, 1) := by decide +kernel
theorem dX8_layTrial_17 : decode cX8_layTrial 17 = .ok (.getfield 19, 3) := by decide +kernel
theorem dX8_layTrial_20 : decode cX8_layTrial 20 = .ok (.iload_n 1, 1) := by decide +kernel
theorem dX8_layTrial_21 : decode cX8_layTrial 21 = .ok (.iaload, 1) := by decide +kernel
theorem dX8_layTrial_22 : decode cX8_layTrial 22 = .ok (.iastore, 1) := by decide +kernel
theorem dX8_layTrial_23 : decode cX8_layTrial 23 = .ok (.iinc 1 1, 3) := by decide +kernel
theorem dX8_layTrial_26 : decode cX8_layTrial 26 = .ok (.goto (-24), 3) := by decide +kernel
theorem dX8_layTrial_29 : decode cX8_layTrial 29 = .ok (.return_, 1) := by decide +kernel
theorem dX8_treesNow_0 : decode cX8_treesNow 0 = .ok (.iconst 0, 1) := by decide +kernel
theorem dX8_treesNow_1 : decode cX8_treesNow 1 = .ok (.istore_n 1, 1) := by decide +kernel
theorem dX8_treesNow_2 : decode cX8_treesNow 2 = .ok (.iconst 0, 1) := by decide +kernel
theorem dX8_treesNow_3 : decode cX8_treesNow 3 = .ok (.istore_n 2, 1) := by decide +kernel
theorem dX8_treesNow_4 : decode cX8_treesNow 4 = .ok (.iload_n 2, 1) := by decide +kernel
theorem dX8_treesNow_5 : decode cX8_treesNow 5 = .ok (.bipush 10, 2) := by decide +kernel
theorem dX8_treesNow_7 : decode cX8_treesNow 7 = .ok (.if_icmp .ge 31, 3) := by decide +kernel
theorem dX8_treesNow_10 : decode cX8_treesNow 10 = .ok (.iload_n 1, 1) := by decide +kernel
theorem dX8_treesNow_11 : decode cX8_treesNow 11 = .ok (.aload_n 0, 1) := by decide +kernel
theorem dX8_treesNow_12 : decode cX8_treesNow 12 = .ok (.getfield 19, 3) := by decide +kernel
theorem dX8_treesNow_15 : decode cX8_treesNow 15 = .ok (.bipush 12, 2) := by decide +kernel
theorem dX8_treesNow_17 : decode cX8_treesNow 17 = .ok (.iload_n 2, 1) := by decide +kernel
theorem dX8_treesNow_18 : decode cX8_treesNow 18 = .ok (.iadd, 1) := by decide +kernel
theorem dX8_treesNow_19 : decode cX8_treesNow 19 = .ok (.iaload, 1) := by decide +kernel
theorem dX8_treesNow_20 : decode cX8_treesNow 20 = .ok (.ifCond .le 9, 3) := by decide +kernel
theorem dX8_treesNow_23 : decode cX8_treesNow 23 = .ok (.iconst 1, 1) := by decide +kernel
theorem dX8_treesNow_24 : decode cX8_treesNow 24 = .ok (.iload_n 2, 1) := by decide +kernel
theorem dX8_treesNow_25 : decode cX8_treesNow 25 = .ok (.ishl, 1) := by decide +kernel
theorem dX8_treesNow_26 : decode cX8_treesNow 26 = .ok (.goto 4, 3) := by decide +kernel
theorem dX8_treesNow_29 : decode cX8_treesNow 29 = .ok (.iconst 0, 1) := by decide +kernel
theorem dX8_treesNow_30 : decode cX8_treesNow 30 = .ok (.ior, 1) := by decide +kernel
theorem dX8_treesNow_31 : decode cX8_treesNow 31 = .ok (.istore_n 1, 1) := by decide +kernel
theorem dX8_treesNow_32 : decode cX8_treesNow 32 = .ok (.iinc 2 1, 3) := by decide +kernel
theorem dX8_treesNow_35 : decode cX8_treesNow 35 = .ok (.goto (-31), 3) := by decide +kernel
theorem dX8_treesNow_38 : decode cX8_treesNow 38 = .ok (.iload_n 1, 1) := by decide +kernel
theorem dX8_treesNow_39 : decode cX8_treesNow 39 = .ok (.ireturn, 1) := by decide +kernel
set_option maxRecDepth 20000 in
theorem ggX8_trees_X8_in : GoodIn wsX8_trees wsX8_in := goodIn_r _ [5] (by decide +kernel) (by decide +kernel)
set_option maxRecDepth 20000 in
theorem gX8_trees_X8_in : GoodIn wsX8_trees (va_wsS RX8 59 yX8_in wsX8_in) := goodIn_app (goodIn_of _ (by decide +kernel)) ggX8_trees_X8_in
set_option maxRecDepth 20000 in
theorem ggX8_trees_X8_isWind : GoodIn wsX8_trees wsX8_isWind := goodIn_r _ [9, 10, 2, 3, 4, 5, 50, 51, 52, 53, 54, 55, 56, 57, 58, 59, 60, 61, 62, 63, 64, 65, 66, 67, 68, 69, 70, 71, 72, 73, 74, 75, 76, 77, 78, 79, 80] (by decide +kernel) (by decide +kernel)
set_option maxRecDepth 20000 in
theorem gX8_trees_X8_isWind : GoodIn wsX8_trees (wsV RX8 133 RX8 yX8_isWind wsX8_isWind) := goodIn_app (goodIn_of _ (by decide +kernel)) ggX8_trees_X8_isWind
set_option maxRecDepth 20000 in
theorem ggX8_trees_X8_treesNow : GoodIn wsX8_trees wsX8_treesNow := goodIn_r _ [14, 1, 50, 51, 52, 53, 54, 55, 56, 57, 58, 59, 60, 61, 62, 63, 64, 65, 66, 67, 68, 69, 70, 71, 72, 73, 74, 75, 76, 77, 78, 79, 80] (by decide +kernel) (by decide +kernel)
set_option maxRecDepth 20000 in
theorem gX8_trees_X8_treesNow : GoodIn wsX8_trees (wsV RX8 175 RX8 yX8_treesNow wsX8_treesNow) := goodIn_app (goodIn_of _ (by decide +kernel)) ggX8_trees_X8_treesNow
set_option maxRecDepth 20000 in
theorem ggX8_trees_X8_ones : GoodIn wsX8_trees wsX8_ones := goodIn_r _ [17] (by decide +kernel) (by decide +kernel)
set_option maxRecDepth 20000 in
theorem gX8_trees_X8_ones : GoodIn wsX8_trees (va_wsS RX8 178 yX8_ones wsX8_ones) := goodIn_app (goodIn_of _ (by decide +kernel)) ggX8_trees_X8_ones
set_option maxRecDepth 20000 in
theorem ggX8_trees_X8_layTrial : GoodIn wsX8_trees wsX8_layTrial := goodIn_r _ [21, 1, 50, 51, 52, 53, 54, 55, 56, 57, 58, 59, 60, 61, 62, 63, 64, 65, 66, 67, 68, 69, 70, 71, 72, 73, 74, 75, 76, 77, 78, 79, 80] (by decide +kernel) (by decide +kernel)
set_option maxRecDepth 20000 in
theorem gX8_trees_X8_layTrial : GoodIn wsX8_trees (wsV RX8 181 RX8 yX8_layTrial wsX8_layTrial) := goodIn_app (goodIn_of _ (by decide +kernel)) ggX8_trees_X8_layTrial
set_option maxRecDepth 20000 in
theorem ggX8_trees_X8_has : GoodIn wsX8_trees wsX8_has := goodIn_r _ [24] (by decide +kernel) (by decide +kernel)
set_option maxRecDepth 20000 in
theorem gX8_trees_X8_has : GoodIn wsX8_trees (va_wsS RX8 74 yX8_has wsX8_has) := goodIn_app (goodIn_of _ (by decide +kernel)) ggX8_trees_X8_has
set_option maxRecDepth 20000 in
theorem ggX8_trees_X8_underOf : GoodIn wsX8_trees wsX8_underOf := goodIn_r _ [28, 29, 30, 31, 4, 32, 1, 33, 34, 22, 23, 24, 35, 36, 37, 38, 39, 40, 2, 3, 5, 41, 42, 43, 44, 45, 46, 47, 48, 49, 50, 51, 52, 53, 54, 55, 56, 57, 58, 59, 60, 61, 62, 63, 64, 65, 66, 67, 68, 69, 70, 71, 72, 73, 74, 75, 76, 77, 78, 79, 80] (by decide +kernel) (by decide +kernel)
set_option maxRecDepth 20000 in
theorem gX8_trees_X8_underOf : GoodIn wsX8_trees (wsV RX8 151 RX8 yX8_underOf wsX8_underOf) := goodIn_app (goodIn_of _ (by decide +kernel)) ggX8_trees_X8_underOf
theorem dX8_trees_0 : decode cX8_trees 0 = .ok (.iload_n 1, 1) := by decide +kernel
theorem dX8_trees_1 : decode cX8_trees 1 = .ok (.i2l, 1) := by decide +kernel
theorem dX8_trees_2 : decode cX8_trees 2 = .ok (.lconst 0, 1) := by decide +kernel
theorem dX8_trees_3 : decode cX8_trees 3 = .ok (.lconst 1, 1) := by decide +kernel
theorem dX8_trees_4 : decode cX8_trees 4 = .ok (.invokestatic 59, 3) := by decide +kernel
theorem dX8_trees_7 : decode cX8_trees 7 = .ok (.ifCond .ne 6, 3) := by decide +kernel
theorem dX8_trees_10 : decode cX8_trees 10 = .ok (.bipush (-2), 2) := by decide +kernel
theorem dX8_trees_12 : decode cX8_trees 12 = .ok (.ireturn, 1) := by decide +kernel
theorem dX8_trees_13 : decode cX8_trees 13 = .ok (.aload_n 0, 1) := by decide +kernel
theorem dX8_trees_14 : decode cX8_trees 14 = .ok (.iload_n 2, 1) := by decide +kernel
theorem dX8_trees_15 : decode cX8_trees 15 = .ok (.invokevirtual 133, 3) := by decide +kernel
theorem dX8_trees_18 : decode cX8_trees 18 = .ok (.ifCond .ne 5, 3) := by decide +kernel
theorem dX8_trees_21 : decode cX8_trees 21 = .ok (.iconst (-1), 1) := by decide +kernel
theorem dX8_trees_22 : decode cX8_trees 22 = .ok (.ireturn, 1) := by decide +kernel
theorem dX8_trees_23 : decode cX8_trees 23 = .ok (.bipush (-9), 2) := by decide +kernel
theorem dX8_trees_25 : decode cX8_trees 25 = .ok (.istore_n 3, 1) := by decide +kernel
theorem dX8_trees_26 : decode cX8_trees 26 = .ok (.iconst 0, 1) := by decide +kernel
theorem dX8_trees_27 : decode cX8_trees 27 = .ok (.istore 4, 2) := by decide +kernel
theorem dX8_trees_29 : decode cX8_trees 29 = .ok (.iload 4, 2) := by decide +kernel
theorem dX8_trees_31 : decode cX8_trees 31 = .ok (.sipush 1024, 3) := by decide +kernel
theorem dX8_trees_34 : decode cX8_trees 34 = .ok (.if_icmp .ge 117, 3) := by decide +kernel
theorem dX8_trees_37 : decode cX8_trees 37 = .ok (.iload 4, 2) := by decide +kernel
theorem dX8_trees_39 : decode cX8_trees 39 = .ok (.aload_n 0, 1) := by decide +kernel
theorem dX8_trees_40 : decode cX8_trees 40 = .ok (.invokevirtual 175, 3) := by decide +kernel
theorem dX8_trees_43 : decode cX8_trees 43 = .ok (.iconst (-1), 1) := by decide +kernel
theorem dX8_trees_44 : decode cX8_trees 44 = .ok (.ixor, 1) := by decide +kernel
theorem dX8_trees_45 : decode cX8_trees 45 = .ok (.iand, 1) := by decide +kernel
theorem dX8_trees_46 : decode cX8_trees 46 = .ok (.ifCond .ne 99, 3) := by decide +kernel
theorem dX8_trees_49 : decode cX8_trees 49 = .ok (.iload_n 3, 1) := by decide +kernel
theorem dX8_trees_50 : decode cX8_trees 50 = .ok (.bipush (-9), 2) := by decide +kernel
theorem dX8_trees_52 : decode cX8_trees 52 = .ok (.if_icmp .eq 15, 3) := by decide +kernel
theorem dX8_trees_55 : decode cX8_trees 55 = .ok (.iload 4, 2) := by decide +kernel
theorem dX8_trees_57 : decode cX8_trees 57 = .ok (.invokestatic 178, 3) := by decide +kernel
theorem dX8_trees_60 : decode cX8_trees 60 = .ok (.iload_n 3, 1) := by decide +kernel
theorem dX8_trees_61 : decode cX8_trees 61 = .ok (.invokestatic 178, 3) := by decide +kernel
theorem dX8_trees_64 : decode cX8_trees 64 = .ok (.if_icmp .ge 81, 3) := by decide +kernel
theorem dX8_trees_67 : decode cX8_trees 67 = .ok (.aload_n 0, 1) := by decide +kernel
theorem dX8_trees_68 : decode cX8_trees 68 = .ok (.invokevirtual 181, 3) := by decide +kernel
theorem dX8_trees_71 : decode cX8_trees 71 = .ok (.iconst 0, 1) := by decide +kernel
theorem dX8_trees_72 : decode cX8_trees 72 = .ok (.istore 5, 2) := by decide +kernel
theorem dX8_trees_74 : decode cX8_trees 74 = .ok (.iload 5, 2) := by decide +kernel
theorem dX8_trees_76 : decode cX8_trees 76 = .ok (.bipush 10, 2) := by decide +kernel
theorem dX8_trees_78 : decode cX8_trees 78 = .ok (.if_icmp .ge 43, 3) := by decide +kernel
theorem dX8_trees_81 : decode cX8_trees 81 = .ok (.aload_n 0, 1) := by decide +kernel
theorem dX8_trees_82 : decode cX8_trees 82 = .ok (.getfield 19, 3) := by decide +kernel
theorem dX8_trees_85 : decode cX8_trees 85 = .ok (.bipush 39, 2) := by decide +kernel
theorem dX8_trees_87 : decode cX8_trees 87 = .ok (.iload 5, 2) := by decide +kernel
theorem dX8_trees_89 : decode cX8_trees 89 = .ok (.iadd, 1) := by decide +kernel
theorem dX8_trees_90 : decode cX8_trees 90 = .ok (.iload 4, 2) := by decide +kernel
theorem dX8_trees_92 : decode cX8_trees 92 = .ok (.iload 5, 2) := by decide +kernel
theorem dX8_trees_94 : decode cX8_trees 94 = .ok (.invokestatic 74, 3) := by decide +kernel
theorem dX8_trees_97 : decode cX8_trees 97 = .ok (.ifCond .eq 7, 3) := by decide +kernel
theorem dX8_trees_100 : decode cX8_trees 100 = .ok (.iconst 0, 1) := by decide +kernel
theorem dX8_trees_101 : decode cX8_trees 101 = .ok (.goto 13, 3) := by decide +kernel
theorem dX8_trees_104 : decode cX8_trees 104 = .ok (.aload_n 0, 1) := by decide +kernel
theorem dX8_trees_105 : decode cX8_trees 105 = .ok (.getfield 19, 3) := by decide +kernel
theorem dX8_trees_108 : decode cX8_trees 108 = .ok (.bipush 39, 2) := by decide +kernel
theorem dX8_trees_110 : decode cX8_trees 110 = .ok (.iload 5, 2) := by decide +kernel
theorem dX8_trees_112 : decode cX8_trees 112 = .ok (.iadd, 1) := by decide +kernel
theorem dX8_trees_113 : decode cX8_trees 113 = .ok (.iaload, 1) := by decide +kernel
theorem dX8_trees_114 : decode cX8_trees 114 = .ok (.iastore, 1) := by decide +kernel
theorem dX8_trees_115 : decode cX8_trees 115 = .ok (.iinc 5 1, 3) := by decide +kernel
theorem dX8_trees_118 : decode cX8_trees 118 = .ok (.goto (-44), 3) := by decide +kernel
theorem dX8_trees_121 : decode cX8_trees 121 = .ok (.aload_n 0, 1) := by decide +kernel
theorem dX8_trees_122 : decode cX8_trees 122 = .ok (.iconst 1, 1) := by decide +kernel
theorem dX8_trees_123 : decode cX8_trees 123 = .ok (.iload_n 2, 1) := by decide +kernel
theorem dX8_trees_124 : decode cX8_trees 124 = .ok (.aload_n 0, 1) := by decide +kernel
theorem dX8_trees_125 : decode cX8_trees 125 = .ok (.getfield 19, 3) := by decide +kernel
theorem dX8_trees_128 : decode cX8_trees 128 = .ok (.bipush 24, 2) := by decide +kernel
theorem dX8_trees_130 : decode cX8_trees 130 = .ok (.iaload, 1) := by decide +kernel
theorem dX8_trees_131 : decode cX8_trees 131 = .ok (.invokevirtual 151, 3) := by decide +kernel
theorem dX8_trees_134 : decode cX8_trees 134 = .ok (.iload_n 1, 1) := by decide +kernel
theorem dX8_trees_135 : decode cX8_trees 135 = .ok (.if_icmp .ne 8, 3) := by decide +kernel
theorem dX8_trees_138 : decode cX8_trees 138 = .ok (.iload 4, 2) := by decide +kernel
theorem dX8_trees_140 : decode cX8_trees 140 = .ok (.goto 4, 3) := by decide +kernel
theorem dX8_trees_143 : decode cX8_trees 143 = .ok (.iload_n 3, 1) := by decide +kernel
theorem dX8_trees_144 : decode cX8_trees 144 = .ok (.istore_n 3, 1) := by decide +kernel
theorem dX8_trees_145 : decode cX8_trees 145 = .ok (.iinc 4 1, 3) := by decide +kernel
theorem dX8_trees_148 : decode cX8_trees 148 = .ok (.goto (-119), 3) := by decide +kernel
theorem dX8_trees_151 : decode cX8_trees 151 = .ok (.iload_n 3, 1) := by decide +kernel
theorem dX8_trees_152 : decode cX8_trees 152 = .ok (.ireturn, 1) := by decide +kernel
set_option maxRecDepth 20000 in
theorem ggX8_decides_X8_isWind : GoodIn wsX8_decides wsX8_isWind := goodIn_r _ [7, 8, 9, 10, 6, 11, 35, 36, 37, 38, 39, 40, 41, 42, 43, 44, 45, 46, 47, 48, 49, 50, 51, 52, 53, 54, 55, 56, 57, 58, 59, 60, 61, 62, 63, 64, 65] (by decide +kernel) (by decide +kernel)
set_option maxRecDepth 20000 in
theorem gX8_decides_X8_isWind : GoodIn wsX8_decides (wsV RX8 133 RX8 yX8_isWind wsX8_isWind) := goodIn_app (goodIn_of _ (by decide +kernel)) ggX8_decides_X8_isWind
set_option maxRecDepth 20000 in
theorem ggX8_decides_X8_pointsBy : GoodIn wsX8_decides wsX8_pointsBy := goodIn_r _ [15, 1, 2, 16, 17, 18, 6, 19, 20, 21, 22, 23, 24, 25, 9, 10, 11, 35, 36, 37, 38, 39, 40, 41, 42, 43, 44, 45, 46, 47, 48, 49, 50, 51, 52, 53, 54, 55, 56, 57, 58, 59, 60, 61, 62, 63, 64, 65] (by decide +kernel) (by decide +kernel)
set_option maxRecDepth 20000 in
theorem gX8_decides_X8_pointsBy : GoodIn wsX8_decides (wsV RX8 127 RX8 yX8_pointsBy wsX8_pointsBy) := goodIn_app (goodIn_of _ (by decide +kernel)) ggX8_decides_X8_pointsBy
set_option maxRecDepth 20000 in
theorem ggX8_decides_X8_brookBy : GoodIn wsX8_decides wsX8_brookBy := goodIn_r _ [29, 1, 30, 31, 32, 6, 33, 2, 34, 17, 18, 19, 35, 36, 37, 38, 39, 40, 41, 42, 43, 44, 45, 46, 47, 48, 49, 50, 51, 52, 53, 54, 55, 56, 57, 58, 59, 60, 61, 62, 63, 64, 65] (by decide +kernel) (by decide +kernel)
set_option maxRecDepth 20000 in
theorem gX8_decides_X8_brookBy : GoodIn wsX8_decides (wsV RX8 130 RX8 yX8_brookBy wsX8_brookBy) := goodIn_app (goodIn_of _ (by decide +kernel)) ggX8_decides_X8_brookBy
theorem dX8_decides_0 : decode cX8_decides 0 = .ok (.aload_n 0, 1) := by decide +kernel
theorem dX8_decides_1 : decode cX8_decides 1 = .ok (.iload_n 1, 1) := by decide +kernel
theorem dX8_decides_2 : decode cX8_decides 2 = .ok (.invokevirtual 133, 3) := by decide +kernel
theorem dX8_decides_5 : decode cX8_decides 5 = .ok (.ifCond .ne 5, 3) := by decide +kernel
theorem dX8_decides_8 : decode cX8_decides 8 = .ok (.iconst (-1), 1) := by decide +kernel
theorem dX8_decides_9 : decode cX8_decides 9 = .ok (.ireturn, 1) := by decide +kernel
theorem dX8_decides_10 : decode cX8_decides 10 = .ok (.aload_n 0, 1) := by decide +kernel
theorem dX8_decides_11 : decode cX8_decides 11 = .ok (.iconst 0, 1) := by decide +kernel
theorem dX8_decides_12 : decode cX8_decides 12 = .ok (.iload_n 1, 1) := by decide +kernel
theorem dX8_decides_13 : decode cX8_decides 13 = .ok (.aload_n 0, 1) := by decide +kernel
theorem dX8_decides_14 : decode cX8_decides 14 = .ok (.getfield 19, 3) := by decide +kernel
theorem dX8_decides_17 : decode cX8_decides 17 = .ok (.bipush 24, 2) := by decide +kernel
theorem dX8_decides_19 : decode cX8_decides 19 = .ok (.iaload, 1) := by decide +kernel
theorem dX8_decides_20 : decode cX8_decides 20 = .ok (.invokevirtual 127, 3) := by decide +kernel
theorem dX8_decides_23 : decode cX8_decides 23 = .ok (.istore_n 2, 1) := by decide +kernel
theorem dX8_decides_24 : decode cX8_decides 24 = .ok (.iconst 0, 1) := by decide +kernel
theorem dX8_decides_25 : decode cX8_decides 25 = .ok (.istore_n 3, 1) := by decide +kernel
theorem dX8_decides_26 : decode cX8_decides 26 = .ok (.iconst 0, 1) := by decide +kernel
theorem dX8_decides_27 : decode cX8_decides 27 = .ok (.istore 4, 2) := by decide +kernel
theorem dX8_decides_29 : decode cX8_decides 29 = .ok (.iload 4, 2) := by decide +kernel
theorem dX8_decides_31 : decode cX8_decides 31 = .ok (.aload_n 0, 1) := by decide +kernel
theorem dX8_decides_32 : decode cX8_decides 32 = .ok (.getfield 53, 3) := by decide +kernel
theorem dX8_decides_35 : decode cX8_decides 35 = .ok (.if_icmp .ge 40, 3) := by decide +kernel
theorem dX8_decides_38 : decode cX8_decides 38 = .ok (.iload_n 3, 1) := by decide +kernel
theorem dX8_decides_39 : decode cX8_decides 39 = .ok (.aload_n 0, 1) := by decide +kernel
theorem dX8_decides_40 : decode cX8_decides 40 = .ok (.iconst 0, 1) := by decide +kernel
theorem dX8_decides_41 : decode cX8_decides 41 = .ok (.iload_n 2, 1) := by decide +kernel
theorem dX8_decides_42 : decode cX8_decides 42 = .ok (.iconst 1, 1) := by decide +kernel
theorem dX8_decides_43 : decode cX8_decides 43 = .ok (.iload 4, 2) := by decide +kernel
theorem dX8_decides_45 : decode cX8_decides 45 = .ok (.ishl, 1) := by decide +kernel
theorem dX8_decides_46 : decode cX8_decides 46 = .ok (.ixor, 1) := by decide +kernel
theorem dX8_decides_47 : decode cX8_decides 47 = .ok (.invokevirtual 130, 3) := by decide +kernel
theorem dX8_decides_50 : decode cX8_decides 50 = .ok (.aload_n 0, 1) := by decide +kernel
theorem dX8_decides_51 : decode cX8_decides 51 = .ok (.iconst 0, 1) := by decide +kernel
theorem dX8_decides_52 : decode cX8_decides 52 = .ok (.iload_n 2, 1) := by decide +kernel
theorem dX8_decides_53 : decode cX8_decides 53 = .ok (.invokevirtual 130, 3) := by decide +kernel
theorem dX8_decides_56 : decode cX8_decides 56 = .ok (.if_icmp .eq 10, 3) := by decide +kernel
theorem dX8_decides_59 : decode cX8_decides 59 = .ok (.iconst 1, 1) := by decide +kernel
theorem dX8_decides_60 : decode cX8_decides 60 = .ok (.iload 4, 2) := by decide +kernel
theorem dX8_decides_62 : decode cX8_decides 62 = .ok (.ishl, 1) := by decide +kernel
theorem dX8_decides_63 : decode cX8_decides 63 = .ok (.goto 4, 3) := by decide +kernel
theorem dX8_decides_66 : decode cX8_decides 66 = .ok (.iconst 0, 1) := by decide +kernel
theorem dX8_decides_67 : decode cX8_decides 67 = .ok (.ior, 1) := by decide +kernel
theorem dX8_decides_68 : decode cX8_decides 68 = .ok (.istore_n 3, 1) := by decide +kernel
theorem dX8_decides_69 : decode cX8_decides 69 = .ok (.iinc 4 1, 3) := by decide +kernel
theorem dX8_decides_72 : decode cX8_decides 72 = .ok (.goto (-43), 3) := by decide +kernel
theorem dX8_decides_75 : decode cX8_decides 75 = .ok (.iload_n 3, 1) := by decide +kernel
theorem dX8_decides_76 : decode cX8_decides 76 = .ok (.ireturn, 1) := by decide +kernel
set_option maxRecDepth 20000 in
theorem ggX8_power_X8_isCock : GoodIn wsX8_power wsX8_isCock := goodIn_r _ [6, 1, 7, 8, 5, 9, 23, 24, 25, 26, 27, 28, 29, 30, 31, 32, 33, 34, 35, 36, 37, 38, 39, 40, 41, 42, 43, 44, 45, 46, 47, 48, 49, 50, 51, 52, 53] (by decide +kernel) (by decide +kernel)
set_option maxRecDepth 20000 in
theorem gX8_power_X8_isCock : GoodIn wsX8_power (wsV RX8 115 RX8 yX8_isCock wsX8_isCock) := goodIn_app (goodIn_of _ (by decide +kernel)) ggX8_power_X8_isCock
set_option maxRecDepth 20000 in
theorem ggX8_power_X8_has : GoodIn wsX8_power wsX8_has := goodIn_r _ [12] (by decide +kernel) (by decide +kernel)
set_option maxRecDepth 20000 in
theorem gX8_power_X8_has : GoodIn wsX8_power (va_wsS RX8 74 yX8_has wsX8_has) := goodIn_app (goodIn_of _ (by decide +kernel)) ggX8_power_X8_has
set_option maxRecDepth 20000 in
theorem ggX8_power_X8_brookBy : GoodIn wsX8_power wsX8_brookBy := goodIn_r _ [16, 17, 18, 19, 20, 5, 21, 1, 22, 10, 11, 12, 23, 24, 25, 26, 27, 28, 29, 30, 31, 32, 33, 34, 35, 36, 37, 38, 39, 40, 41, 42, 43, 44, 45, 46, 47, 48, 49, 50, 51, 52, 53] (by decide +kernel) (by decide +kernel)
set_option maxRecDepth 20000 in
theorem gX8_power_X8_brookBy : GoodIn wsX8_power (wsV RX8 130 RX8 yX8_brookBy wsX8_brookBy) := goodIn_app (goodIn_of _ (by decide +kernel)) ggX8_power_X8_brookBy
theorem dX8_power_0 : decode cX8_power 0 = .ok (.aload_n 0, 1) := by decide +kernel
theorem dX8_power_1 : decode cX8_power 1 = .ok (.iload_n 1, 1) := by decide +kernel
theorem dX8_power_2 : decode cX8_power 2 = .ok (.invokevirtual 115, 3) := by decide +kernel
theorem dX8_power_5 : decode cX8_power 5 = .ok (.ifCond .ne 5, 3) := by decide +kernel
theorem dX8_power_8 : decode cX8_power 8 = .ok (.iconst (-1), 1) := by decide +kernel
theorem dX8_power_9 : decode cX8_power 9 = .ok (.ireturn, 1) := by decide +kernel
theorem dX8_power_10 : decode cX8_power 10 = .ok (.iconst 0, 1) := by decide +kernel
theorem dX8_power_11 : decode cX8_power 11 = .ok (.istore_n 2, 1) := by decide +kernel
theorem dX8_power_12 : decode cX8_power 12 = .ok (.iconst 0, 1) := by decide +kernel
theorem dX8_power_13 : decode cX8_power 13 = .ok (.istore_n 3, 1) := by decide +kernel
theorem dX8_power_14 : decode cX8_power 14 = .ok (.iload_n 3, 1) := by decide +kernel
theorem dX8_power_15 : decode cX8_power 15 = .ok (.iconst 1, 1) := by decide +kernel
theorem dX8_power_16 : decode cX8_power 16 = .ok (.aload_n 0, 1) := by decide +kernel
theorem dX8_power_17 : decode cX8_power 17 = .ok (.getfield 53, 3) := by decide +kernel
theorem dX8_power_20 : decode cX8_power 20 = .ok (.ishl, 1) := by decide +kernel
theorem dX8_power_21 : decode cX8_power 21 = .ok (.if_icmp .ge 44, 3) := by decide +kernel
theorem dX8_power_24 : decode cX8_power 24 = .ok (.iload_n 2, 1) := by decide +kernel
theorem dX8_power_25 : decode cX8_power 25 = .ok (.iload_n 3, 1) := by decide +kernel
theorem dX8_power_26 : decode cX8_power 26 = .ok (.iload_n 1, 1) := by decide +kernel
theorem dX8_power_27 : decode cX8_power 27 = .ok (.invokestatic 74, 3) := by decide +kernel
theorem dX8_power_30 : decode cX8_power 30 = .ok (.ifCond .ne 26, 3) := by decide +kernel
theorem dX8_power_33 : decode cX8_power 33 = .ok (.aload_n 0, 1) := by decide +kernel
theorem dX8_power_34 : decode cX8_power 34 = .ok (.iconst 0, 1) := by decide +kernel
theorem dX8_power_35 : decode cX8_power 35 = .ok (.iload_n 3, 1) := by decide +kernel
theorem dX8_power_36 : decode cX8_power 36 = .ok (.invokevirtual 130, 3) := by decide +kernel
theorem dX8_power_39 : decode cX8_power 39 = .ok (.aload_n 0, 1) := by decide +kernel
theorem dX8_power_40 : decode cX8_power 40 = .ok (.iconst 0, 1) := by decide +kernel
theorem dX8_power_41 : decode cX8_power 41 = .ok (.iload_n 3, 1) := by decide +kernel
theorem dX8_power_42 : decode cX8_power 42 = .ok (.iconst 1, 1) := by decide +kernel
theorem dX8_power_43 : decode cX8_power 43 = .ok (.iload_n 1, 1) := by decide +kernel
theorem dX8_power_44 : decode cX8_power 44 = .ok (.ishl, 1) := by decide +kernel
theorem dX8_power_45 : decode cX8_power 45 = .ok (.ior, 1) := by decide +kernel
theorem dX8_power_46 : decode cX8_power 46 = .ok (.invokevirtual 130, 3) := by decide +kernel
theorem dX8_power_49 : decode cX8_power 49 = .ok (.if_icmp .eq 7, 3) := by decide +kernel
theorem dX8_power_52 : decode cX8_power 52 = .ok (.iconst 1, 1) := by decide +kernel
theorem dX8_power_53 : decode cX8_power 53 = .ok (.goto 4, 3) := by decide +kernel
theorem dX8_power_56 : decode cX8_power 56 = .ok (.iconst 0, 1) := by decide +kernel
theorem dX8_power_57 : decode cX8_power 57 = .ok (.iadd, 1) := by decide +kernel
theorem dX8_power_58 : decode cX8_power 58 = .ok (.istore_n 2, 1) := by decide +kernel
theorem dX8_power_59 : decode cX8_power 59 = .ok (.iinc 3 1, 3) := by decide +kernel
theorem dX8_power_62 : decode cX8_power 62 = .ok (.goto (-48), 3) := by decide +kernel
theorem dX8_power_65 : decode cX8_power 65 = .ok (.iload_n 2, 1) := by decide +kernel
theorem dX8_power_66 : decode cX8_power 66 = .ok (.ireturn, 1) := by decide +kernel
theorem dX8_tenTo_0 : decode cX8_tenTo 0 = .ok (.iconst 1, 1) := by decide +kernel
theorem dX8_tenTo_1 : decode cX8_tenTo 1 = .ok (.istore_n 1, 1) := by decide +kernel
theorem dX8_tenTo_2 : decode cX8_tenTo 2 = .ok (.iconst 0, 1) := by decide +kernel
theorem dX8_tenTo_3 : decode cX8_tenTo 3 = .ok (.istore_n 2, 1) := by decide +kernel
theorem dX8_tenTo_4 : decode cX8_tenTo 4 = .ok (.iload_n 2, 1) := by decide +kernel
theorem dX8_tenTo_5 : decode cX8_tenTo 5 = .ok (.iload_n 0, 1) := by decide +kernel
theorem dX8_tenTo_6 : decode cX8_tenTo 6 = .ok (.if_icmp .ge 14, 3) := by decide +kernel
theorem dX8_tenTo_9 : decode cX8_tenTo 9 = .ok (.iload_n 1, 1) := by decide +kernel
theorem dX8_tenTo_10 : decode cX8_tenTo 10 = .ok (.bipush 10, 2) := by decide +kernel
theorem dX8_tenTo_12 : decode cX8_tenTo 12 = .ok (.imul, 1) := by decide +kernel
theorem dX8_tenTo_13 : decode cX8_tenTo 13 = .ok (.istore_n 1, 1) := by decide +kernel
theorem dX8_tenTo_14 : decode cX8_tenTo 14 = .ok (.iinc 2 1, 3) := by decide +kernel
theorem dX8_tenTo_17 : decode cX8_tenTo 17 = .ok (.goto (-13), 3) := by decide +kernel
theorem dX8_tenTo_20 : decode cX8_tenTo 20 = .ok (.iload_n 1, 1) := by decide +kernel
theorem dX8_tenTo_21 : decode cX8_tenTo 21 = .ok (.ireturn, 1) := by decide +kernel
set_option maxRecDepth 20000 in
theorem ggX8_judge_X8_in : GoodIn wsX8_judge wsX8_in := goodIn_r _ [6] (by decide +kernel) (by decide +kernel)
set_option maxRecDepth 20000 in
theorem gX8_judge_X8_in : GoodIn wsX8_judge (va_wsS RX8 59 yX8_in wsX8_in) := goodIn_app (goodIn_of _ (by decide +kernel)) ggX8_judge_X8_in
set_option maxRecDepth 20000 in
theorem ggX8_judge_X8_tenTo : GoodIn wsX8_judge wsX8_tenTo := goodIn_r _ [9] (by decide +kernel) (by decide +kernel)
set_option maxRecDepth 20000 in
theorem gX8_judge_X8_tenTo : GoodIn wsX8_judge (va_wsS RX8 186 yX8_tenTo wsX8_tenTo) := goodIn_app (goodIn_of _ (by decide +kernel)) ggX8_judge_X8_tenTo
set_option maxRecDepth 20000 in
theorem ggX8_judge_X8_layTrial : GoodIn wsX8_judge wsX8_layTrial := goodIn_r _ [13, 2, 47, 48, 49, 50, 51, 52, 53, 54, 55, 56, 57, 58, 59, 60, 61, 62, 63, 64, 65, 66, 67, 68, 69, 70, 71, 72, 73, 74, 75, 76, 77] (by decide +kernel) (by decide +kernel)
set_option maxRecDepth 20000 in
theorem gX8_judge_X8_layTrial : GoodIn wsX8_judge (wsV RX8 181 RX8 yX8_layTrial wsX8_layTrial) := goodIn_app (goodIn_of _ (by decide +kernel)) ggX8_judge_X8_layTrial
set_option maxRecDepth 20000 in
theorem ggX8_judge_X8_isWind : GoodIn wsX8_judge wsX8_isWind := goodIn_r _ [17, 18, 3, 4, 5, 6, 47, 48, 49, 50, 51, 52, 53, 54, 55, 56, 57, 58, 59, 60, 61, 62, 63, 64, 65, 66, 67, 68, 69, 70, 71, 72, 73, 74, 75, 76, 77] (by decide +kernel) (by decide +kernel)
set_option maxRecDepth 20000 in
theorem gX8_judge_X8_isWind : GoodIn wsX8_judge (wsV RX8 133 RX8 yX8_isWind wsX8_isWind) := goodIn_app (goodIn_of _ (by decide +kernel)) ggX8_judge_X8_isWind
set_option maxRecDepth 20000 in
theorem ggX8_judge_X8_blowOn : GoodIn wsX8_judge wsX8_blowOn := goodIn_r _ [22, 2, 23, 24, 25, 5, 26, 27, 28, 29, 30, 31, 32, 33, 34, 35, 36, 37, 3, 4, 6, 38, 39, 40, 41, 42, 43, 44, 45, 46, 47, 48, 49, 50, 51, 52, 53, 54, 55, 56, 57, 58, 59, 60, 61, 62, 63, 64, 65, 66, 67, 68, 69, 70, 71, 72, 73, 74, 75, 76, 77] (by decide +kernel) (by decide +kernel)
set_option maxRecDepth 20000 in
theorem gX8_judge_X8_blowOn : GoodIn wsX8_judge (wsV RX8 144 RX8 yX8_blowOn wsX8_blowOn) := goodIn_app (goodIn_of _ (by decide +kernel)) ggX8_judge_X8_blowOn
theorem dX8_judge_0 : decode cX8_judge 0 = .ok (.iload_n 1, 1) := by decide +kernel
theorem dX8_judge_1 : decode cX8_judge 1 = .ok (.i2l, 1) := by decide +kernel
theorem dX8_judge_2 : decode cX8_judge 2 = .ok (.lconst 1, 1) := by decide +kernel
theorem dX8_judge_3 : decode cX8_judge 3 = .ok (.ldc2_w 184, 3) := by decide +kernel
theorem dX8_judge_6 : decode cX8_judge 6 = .ok (.invokestatic 59, 3) := by decide +kernel
theorem dX8_judge_9 : decode cX8_judge 9 = .ok (.ifCond .eq 19, 3) := by decide +kernel
theorem dX8_judge_12 : decode cX8_judge 12 = .ok (.iload_n 2, 1) := by decide +kernel
theorem dX8_judge_13 : decode cX8_judge 13 = .ok (.i2l, 1) := by decide +kernel
theorem dX8_judge_14 : decode cX8_judge 14 = .ok (.lconst 0, 1) := by decide +kernel
theorem dX8_judge_15 : decode cX8_judge 15 = .ok (.iload_n 1, 1) := by decide +kernel
theorem dX8_judge_16 : decode cX8_judge 16 = .ok (.invokestatic 186, 3) := by decide +kernel
theorem dX8_judge_19 : decode cX8_judge 19 = .ok (.iconst 1, 1) := by decide +kernel
theorem dX8_judge_20 : decode cX8_judge 20 = .ok (.isub, 1) := by decide +kernel
theorem dX8_judge_21 : decode cX8_judge 21 = .ok (.i2l, 1) := by decide +kernel
theorem dX8_judge_22 : decode cX8_judge 22 = .ok (.invokestatic 59, 3) := by decide +kernel
theorem dX8_judge_25 : decode cX8_judge 25 = .ok (.ifCond .ne 6, 3) := by decide +kernel
theorem dX8_judge_28 : decode cX8_judge 28 = .ok (.bipush (-2), 2) := by decide +kernel
theorem dX8_judge_30 : decode cX8_judge 30 = .ok (.ireturn, 1) := by decide +kernel
theorem dX8_judge_31 : decode cX8_judge 31 = .ok (.aload_n 0, 1) := by decide +kernel
theorem dX8_judge_32 : decode cX8_judge 32 = .ok (.invokevirtual 181, 3) := by decide +kernel
theorem dX8_judge_35 : decode cX8_judge 35 = .ok (.iconst 0, 1) := by decide +kernel
theorem dX8_judge_36 : decode cX8_judge 36 = .ok (.istore_n 3, 1) := by decide +kernel
theorem dX8_judge_37 : decode cX8_judge 37 = .ok (.iload_n 3, 1) := by decide +kernel
theorem dX8_judge_38 : decode cX8_judge 38 = .ok (.iload_n 1, 1) := by decide +kernel
theorem dX8_judge_39 : decode cX8_judge 39 = .ok (.if_icmp .ge 54, 3) := by decide +kernel
theorem dX8_judge_42 : decode cX8_judge 42 = .ok (.iload_n 2, 1) := by decide +kernel
theorem dX8_judge_43 : decode cX8_judge 43 = .ok (.iload_n 1, 1) := by decide +kernel
theorem dX8_judge_44 : decode cX8_judge 44 = .ok (.iconst 1, 1) := by decide +kernel
theorem dX8_judge_45 : decode cX8_judge 45 = .ok (.isub, 1) := by decide +kernel
theorem dX8_judge_46 : decode cX8_judge 46 = .ok (.iload_n 3, 1) := by decide +kernel
theorem dX8_judge_47 : decode cX8_judge 47 = .ok (.isub, 1) := by decide +kernel
theorem dX8_judge_48 : decode cX8_judge 48 = .ok (.invokestatic 186, 3) := by decide +kernel
theorem dX8_judge_51 : decode cX8_judge 51 = .ok (.idiv, 1) := by decide +kernel
theorem dX8_judge_52 : decode cX8_judge 52 = .ok (.bipush 10, 2) := by decide +kernel
theorem dX8_judge_54 : decode cX8_judge 54 = .ok (.irem, 1) := by decide +kernel
theorem dX8_judge_55 : decode cX8_judge 55 = .ok (.istore 4, 2) := by decide +kernel
theorem dX8_judge_57 : decode cX8_judge 57 = .ok (.aload_n 0, 1) := by decide +kernel
theorem dX8_judge_58 : decode cX8_judge 58 = .ok (.iload 4, 2) := by decide +kernel
theorem dX8_judge_60 : decode cX8_judge 60 = .ok (.invokevirtual 133, 3) := by decide +kernel
