theorem dX8_judge_63 : decode cX8_judge 63 = .ok (.ifCond .ne 5, 3) := by decide +kernel
theorem dX8_judge_66 : decode cX8_judge 66 = .ok (.iload_n 3, 1) := by decide +kernel
theorem dX8_judge_67 : decode cX8_judge 67 = .ok (.ireturn, 1) := by decide +kernel
theorem dX8_judge_68 : decode cX8_judge 68 = .ok (.aload_n 0, 1) := by decide +kernel
theorem dX8_judge_69 : decode cX8_judge 69 = .ok (.iconst 1, 1) := by decide +kernel
theorem dX8_judge_70 : decode cX8_judge 70 = .ok (.iload 4, 2) := by decide +kernel
theorem dX8_judge_72 : decode cX8_judge 72 = .ok (.invokevirtual 144, 3) := by decide +kernel
theorem dX8_judge_75 : decode cX8_judge 75 = .ok (.aload_n 0, 1) := by decide +kernel
theorem dX8_judge_76 : decode cX8_judge 76 = .ok (.getfield 19, 3) := by decide +kernel
theorem dX8_judge_79 : decode cX8_judge 79 = .ok (.bipush 52, 2) := by decide +kernel
theorem dX8_judge_81 : decode cX8_judge 81 = .ok (.iaload, 1) := by decide +kernel
theorem dX8_judge_82 : decode cX8_judge 82 = .ok (.ifCond .eq 5, 3) := by decide +kernel
theorem dX8_judge_85 : decode cX8_judge 85 = .ok (.iload_n 3, 1) := by decide +kernel
theorem dX8_judge_86 : decode cX8_judge 86 = .ok (.ireturn, 1) := by decide +kernel
theorem dX8_judge_87 : decode cX8_judge 87 = .ok (.iinc 3 1, 3) := by decide +kernel
theorem dX8_judge_90 : decode cX8_judge 90 = .ok (.goto (-53), 3) := by decide +kernel
theorem dX8_judge_93 : decode cX8_judge 93 = .ok (.bipush (-9), 2) := by decide +kernel
theorem dX8_judge_95 : decode cX8_judge 95 = .ok (.ireturn, 1) := by decide +kernel
set_option maxRecDepth 20000 in
theorem ggX8_see_X8_isCock : GoodIn wsX8_see wsX8_isCock := goodIn_r _ [8, 9, 10, 11, 7, 12, 13, 14, 15, 16, 17, 18, 19, 20, 21, 22, 23, 24, 25, 26, 27, 28, 29, 30, 31, 32, 33, 34, 35, 36, 37, 38, 39, 40, 41, 42, 43] (by decide +kernel) (by decide +kernel)
set_option maxRecDepth 20000 in
theorem gX8_see_X8_isCock : GoodIn wsX8_see (wsV RX8 115 RX8 yX8_isCock wsX8_isCock) := goodIn_app (goodIn_of _ (by decide +kernel)) ggX8_see_X8_isCock
set_option maxRecDepth 20000 in
theorem ggX8_see_X8_in : GoodIn wsX8_see wsX8_in := goodIn_r _ [12] (by decide +kernel) (by decide +kernel)
set_option maxRecDepth 20000 in
theorem gX8_see_X8_in : GoodIn wsX8_see (va_wsS RX8 59 yX8_in wsX8_in) := goodIn_app (goodIn_of _ (by decide +kernel)) ggX8_see_X8_in
theorem dX8_see_0 : decode cX8_see 0 = .ok (.aload_n 0, 1) := by decide +kernel
theorem dX8_see_1 : decode cX8_see 1 = .ok (.iload_n 1, 1) := by decide +kernel
theorem dX8_see_2 : decode cX8_see 2 = .ok (.invokevirtual 115, 3) := by decide +kernel
theorem dX8_see_5 : decode cX8_see 5 = .ok (.ifCond .ne 5, 3) := by decide +kernel
theorem dX8_see_8 : decode cX8_see 8 = .ok (.iconst (-1), 1) := by decide +kernel
theorem dX8_see_9 : decode cX8_see 9 = .ok (.ireturn, 1) := by decide +kernel
theorem dX8_see_10 : decode cX8_see 10 = .ok (.iload_n 2, 1) := by decide +kernel
theorem dX8_see_11 : decode cX8_see 11 = .ok (.i2l, 1) := by decide +kernel
theorem dX8_see_12 : decode cX8_see 12 = .ok (.lconst 0, 1) := by decide +kernel
theorem dX8_see_13 : decode cX8_see 13 = .ok (.lconst 1, 1) := by decide +kernel
theorem dX8_see_14 : decode cX8_see 14 = .ok (.invokestatic 59, 3) := by decide +kernel
theorem dX8_see_17 : decode cX8_see 17 = .ok (.ifCond .ne 6, 3) := by decide +kernel
theorem dX8_see_20 : decode cX8_see 20 = .ok (.bipush (-2), 2) := by decide +kernel
theorem dX8_see_22 : decode cX8_see 22 = .ok (.ireturn, 1) := by decide +kernel
theorem dX8_see_23 : decode cX8_see 23 = .ok (.aload_n 0, 1) := by decide +kernel
theorem dX8_see_24 : decode cX8_see 24 = .ok (.getfield 189, 3) := by decide +kernel
theorem dX8_see_27 : decode cX8_see 27 = .ok (.bipush 6, 2) := by decide +kernel
theorem dX8_see_29 : decode cX8_see 29 = .ok (.if_icmp .ne 6, 3) := by decide +kernel
theorem dX8_see_32 : decode cX8_see 32 = .ok (.bipush (-4), 2) := by decide +kernel
theorem dX8_see_34 : decode cX8_see 34 = .ok (.ireturn, 1) := by decide +kernel
theorem dX8_see_35 : decode cX8_see 35 = .ok (.aload_n 0, 1) := by decide +kernel
theorem dX8_see_36 : decode cX8_see 36 = .ok (.getfield 40, 3) := by decide +kernel
theorem dX8_see_39 : decode cX8_see 39 = .ok (.aload_n 0, 1) := by decide +kernel
theorem dX8_see_40 : decode cX8_see 40 = .ok (.getfield 189, 3) := by decide +kernel
theorem dX8_see_43 : decode cX8_see 43 = .ok (.iload_n 1, 1) := by decide +kernel
theorem dX8_see_44 : decode cX8_see 44 = .ok (.iastore, 1) := by decide +kernel
theorem dX8_see_45 : decode cX8_see 45 = .ok (.aload_n 0, 1) := by decide +kernel
theorem dX8_see_46 : decode cX8_see 46 = .ok (.getfield 43, 3) := by decide +kernel
theorem dX8_see_49 : decode cX8_see 49 = .ok (.aload_n 0, 1) := by decide +kernel
theorem dX8_see_50 : decode cX8_see 50 = .ok (.getfield 189, 3) := by decide +kernel
theorem dX8_see_53 : decode cX8_see 53 = .ok (.iload_n 2, 1) := by decide +kernel
theorem dX8_see_54 : decode cX8_see 54 = .ok (.iastore, 1) := by decide +kernel
theorem dX8_see_55 : decode cX8_see 55 = .ok (.aload_n 0, 1) := by decide +kernel
theorem dX8_see_56 : decode cX8_see 56 = .ok (.dup, 1) := by decide +kernel
theorem dX8_see_57 : decode cX8_see 57 = .ok (.getfield 189, 3) := by decide +kernel
theorem dX8_see_60 : decode cX8_see 60 = .ok (.iconst 1, 1) := by decide +kernel
theorem dX8_see_61 : decode cX8_see 61 = .ok (.iadd, 1) := by decide +kernel
theorem dX8_see_62 : decode cX8_see 62 = .ok (.putfield 189, 3) := by decide +kernel
theorem dX8_see_65 : decode cX8_see 65 = .ok (.aload_n 0, 1) := by decide +kernel
theorem dX8_see_66 : decode cX8_see 66 = .ok (.getfield 189, 3) := by decide +kernel
theorem dX8_see_69 : decode cX8_see 69 = .ok (.ireturn, 1) := by decide +kernel
theorem dX8_unsee_0 : decode cX8_unsee 0 = .ok (.aload_n 0, 1) := by decide +kernel
theorem dX8_unsee_1 : decode cX8_unsee 1 = .ok (.getfield 189, 3) := by decide +kernel
theorem dX8_unsee_4 : decode cX8_unsee 4 = .ok (.istore_n 1, 1) := by decide +kernel
theorem dX8_unsee_5 : decode cX8_unsee 5 = .ok (.aload_n 0, 1) := by decide +kernel
theorem dX8_unsee_6 : decode cX8_unsee 6 = .ok (.iconst 0, 1) := by decide +kernel
theorem dX8_unsee_7 : decode cX8_unsee 7 = .ok (.putfield 189, 3) := by decide +kernel
theorem dX8_unsee_10 : decode cX8_unsee 10 = .ok (.iload_n 1, 1) := by decide +kernel
theorem dX8_unsee_11 : decode cX8_unsee 11 = .ok (.ireturn, 1) := by decide +kernel
set_option maxRecDepth 20000 in
theorem ggX8_isSeen_X8_pointsBy : GoodIn wsX8_isSeen wsX8_pointsBy := goodIn_r _ [8, 9, 10, 11, 12, 13, 7, 14, 15, 16, 17, 18, 19, 20, 21, 22, 23, 28, 29, 30, 31, 32, 33, 34, 35, 36, 37, 38, 39, 40, 41, 42, 43, 44, 45, 46, 47, 48, 49, 50, 51, 52, 53, 54, 55, 56, 57, 58] (by decide +kernel) (by decide +kernel)
set_option maxRecDepth 20000 in
theorem gX8_isSeen_X8_pointsBy : GoodIn wsX8_isSeen (wsV RX8 127 RX8 yX8_pointsBy wsX8_pointsBy) := goodIn_app (goodIn_of _ (by decide +kernel)) ggX8_isSeen_X8_pointsBy
set_option maxRecDepth 20000 in
theorem ggX8_isSeen_X8_isCock : GoodIn wsX8_isSeen wsX8_isCock := goodIn_r _ [27, 10, 21, 22, 7, 23, 28, 29, 30, 31, 32, 33, 34, 35, 36, 37, 38, 39, 40, 41, 42, 43, 44, 45, 46, 47, 48, 49, 50, 51, 52, 53, 54, 55, 56, 57, 58] (by decide +kernel) (by decide +kernel)
set_option maxRecDepth 20000 in
theorem gX8_isSeen_X8_isCock : GoodIn wsX8_isSeen (wsV RX8 115 RX8 yX8_isCock wsX8_isCock) := goodIn_app (goodIn_of _ (by decide +kernel)) ggX8_isSeen_X8_isCock
theorem dX8_isSeen_0 : decode cX8_isSeen 0 = .ok (.aload_n 0, 1) := by decide +kernel
theorem dX8_isSeen_1 : decode cX8_isSeen 1 = .ok (.iconst 0, 1) := by decide +kernel
theorem dX8_isSeen_2 : decode cX8_isSeen 2 = .ok (.iload_n 1, 1) := by decide +kernel
theorem dX8_isSeen_3 : decode cX8_isSeen 3 = .ok (.iload_n 2, 1) := by decide +kernel
theorem dX8_isSeen_4 : decode cX8_isSeen 4 = .ok (.invokevirtual 127, 3) := by decide +kernel
theorem dX8_isSeen_7 : decode cX8_isSeen 7 = .ok (.istore_n 3, 1) := by decide +kernel
theorem dX8_isSeen_8 : decode cX8_isSeen 8 = .ok (.iconst 1, 1) := by decide +kernel
theorem dX8_isSeen_9 : decode cX8_isSeen 9 = .ok (.istore 4, 2) := by decide +kernel
theorem dX8_isSeen_11 : decode cX8_isSeen 11 = .ok (.iconst 0, 1) := by decide +kernel
theorem dX8_isSeen_12 : decode cX8_isSeen 12 = .ok (.istore 5, 2) := by decide +kernel
theorem dX8_isSeen_14 : decode cX8_isSeen 14 = .ok (.iload 5, 2) := by decide +kernel
theorem dX8_isSeen_16 : decode cX8_isSeen 16 = .ok (.aload_n 0, 1) := by decide +kernel
theorem dX8_isSeen_17 : decode cX8_isSeen 17 = .ok (.getfield 189, 3) := by decide +kernel
theorem dX8_isSeen_20 : decode cX8_isSeen 20 = .ok (.if_icmp .ge 56, 3) := by decide +kernel
theorem dX8_isSeen_23 : decode cX8_isSeen 23 = .ok (.iload 4, 2) := by decide +kernel
theorem dX8_isSeen_25 : decode cX8_isSeen 25 = .ok (.ifCond .eq 42, 3) := by decide +kernel
theorem dX8_isSeen_28 : decode cX8_isSeen 28 = .ok (.aload_n 0, 1) := by decide +kernel
theorem dX8_isSeen_29 : decode cX8_isSeen 29 = .ok (.aload_n 0, 1) := by decide +kernel
theorem dX8_isSeen_30 : decode cX8_isSeen 30 = .ok (.getfield 40, 3) := by decide +kernel
theorem dX8_isSeen_33 : decode cX8_isSeen 33 = .ok (.iload 5, 2) := by decide +kernel
theorem dX8_isSeen_35 : decode cX8_isSeen 35 = .ok (.iaload, 1) := by decide +kernel
theorem dX8_isSeen_36 : decode cX8_isSeen 36 = .ok (.invokevirtual 115, 3) := by decide +kernel
theorem dX8_isSeen_39 : decode cX8_isSeen 39 = .ok (.ifCond .eq 24, 3) := by decide +kernel
theorem dX8_isSeen_42 : decode cX8_isSeen 42 = .ok (.iload_n 3, 1) := by decide +kernel
theorem dX8_isSeen_43 : decode cX8_isSeen 43 = .ok (.aload_n 0, 1) := by decide +kernel
theorem dX8_isSeen_44 : decode cX8_isSeen 44 = .ok (.getfield 40, 3) := by decide +kernel
theorem dX8_isSeen_47 : decode cX8_isSeen 47 = .ok (.iload 5, 2) := by decide +kernel
theorem dX8_isSeen_49 : decode cX8_isSeen 49 = .ok (.iaload, 1) := by decide +kernel
theorem dX8_isSeen_50 : decode cX8_isSeen 50 = .ok (.ishr, 1) := by decide +kernel
theorem dX8_isSeen_51 : decode cX8_isSeen 51 = .ok (.iconst 1, 1) := by decide +kernel
theorem dX8_isSeen_52 : decode cX8_isSeen 52 = .ok (.iand, 1) := by decide +kernel
theorem dX8_isSeen_53 : decode cX8_isSeen 53 = .ok (.aload_n 0, 1) := by decide +kernel
theorem dX8_isSeen_54 : decode cX8_isSeen 54 = .ok (.getfield 43, 3) := by decide +kernel
theorem dX8_isSeen_57 : decode cX8_isSeen 57 = .ok (.iload 5, 2) := by decide +kernel
theorem dX8_isSeen_59 : decode cX8_isSeen 59 = .ok (.iaload, 1) := by decide +kernel
theorem dX8_isSeen_60 : decode cX8_isSeen 60 = .ok (.if_icmp .ne 7, 3) := by decide +kernel
theorem dX8_isSeen_63 : decode cX8_isSeen 63 = .ok (.iconst 1, 1) := by decide +kernel
theorem dX8_isSeen_64 : decode cX8_isSeen 64 = .ok (.goto 4, 3) := by decide +kernel
theorem dX8_isSeen_67 : decode cX8_isSeen 67 = .ok (.iconst 0, 1) := by decide +kernel
theorem dX8_isSeen_68 : decode cX8_isSeen 68 = .ok (.istore 4, 2) := by decide +kernel
theorem dX8_isSeen_70 : decode cX8_isSeen 70 = .ok (.iinc 5 1, 3) := by decide +kernel
theorem dX8_isSeen_73 : decode cX8_isSeen 73 = .ok (.goto (-59), 3) := by decide +kernel
theorem dX8_isSeen_76 : decode cX8_isSeen 76 = .ok (.iload 4, 2) := by decide +kernel
theorem dX8_isSeen_78 : decode cX8_isSeen 78 = .ok (.ireturn, 1) := by decide +kernel
set_option maxRecDepth 20000 in
theorem ggX8_strings_X8_isWind : GoodIn wsX8_strings wsX8_isWind := goodIn_r _ [7, 8, 9, 10, 6, 11, 38, 39, 40, 41, 42, 43, 44, 45, 46, 47, 48, 49, 50, 51, 52, 53, 54, 55, 56, 57, 58, 59, 60, 61, 62, 63, 64, 65, 66, 67, 68] (by decide +kernel) (by decide +kernel)
set_option maxRecDepth 20000 in
theorem gX8_strings_X8_isWind : GoodIn wsX8_strings (wsV RX8 133 RX8 yX8_isWind wsX8_isWind) := goodIn_app (goodIn_of _ (by decide +kernel)) ggX8_strings_X8_isWind
set_option maxRecDepth 20000 in
theorem ggX8_strings_X8_in : GoodIn wsX8_strings wsX8_in := goodIn_r _ [11] (by decide +kernel) (by decide +kernel)
set_option maxRecDepth 20000 in
theorem gX8_strings_X8_in : GoodIn wsX8_strings (va_wsS RX8 59 yX8_in wsX8_in) := goodIn_app (goodIn_of _ (by decide +kernel)) ggX8_strings_X8_in
set_option maxRecDepth 20000 in
theorem ggX8_strings_X8_isSeen : GoodIn wsX8_strings wsX8_isSeen := goodIn_r _ [15, 16, 17, 18, 19, 20, 21, 6, 22, 23, 2, 24, 25, 26, 27, 28, 29, 30, 31, 32, 33, 9, 10, 11, 34, 35, 36, 37, 38, 39, 40, 41, 42, 43, 44, 45, 46, 47, 48, 49, 50, 51, 52, 53, 54, 55, 56, 57, 58, 59, 60, 61, 62, 63, 64, 65, 66, 67, 68] (by decide +kernel) (by decide +kernel)
set_option maxRecDepth 20000 in
theorem gX8_strings_X8_isSeen : GoodIn wsX8_strings (wsV RX8 192 RX8 yX8_isSeen wsX8_isSeen) := goodIn_app (goodIn_of _ (by decide +kernel)) ggX8_strings_X8_isSeen
theorem dX8_strings_0 : decode cX8_strings 0 = .ok (.aload_n 0, 1) := by decide +kernel
theorem dX8_strings_1 : decode cX8_strings 1 = .ok (.iload_n 1, 1) := by decide +kernel
theorem dX8_strings_2 : decode cX8_strings 2 = .ok (.invokevirtual 133, 3) := by decide +kernel
theorem dX8_strings_5 : decode cX8_strings 5 = .ok (.ifCond .ne 5, 3) := by decide +kernel
theorem dX8_strings_8 : decode cX8_strings 8 = .ok (.iconst (-1), 1) := by decide +kernel
theorem dX8_strings_9 : decode cX8_strings 9 = .ok (.ireturn, 1) := by decide +kernel
theorem dX8_strings_10 : decode cX8_strings 10 = .ok (.iload_n 2, 1) := by decide +kernel
theorem dX8_strings_11 : decode cX8_strings 11 = .ok (.i2l, 1) := by decide +kernel
theorem dX8_strings_12 : decode cX8_strings 12 = .ok (.lconst 0, 1) := by decide +kernel
theorem dX8_strings_13 : decode cX8_strings 13 = .ok (.ldc2_w 136, 3) := by decide +kernel
theorem dX8_strings_16 : decode cX8_strings 16 = .ok (.invokestatic 59, 3) := by decide +kernel
theorem dX8_strings_19 : decode cX8_strings 19 = .ok (.ifCond .ne 6, 3) := by decide +kernel
theorem dX8_strings_22 : decode cX8_strings 22 = .ok (.bipush (-2), 2) := by decide +kernel
theorem dX8_strings_24 : decode cX8_strings 24 = .ok (.ireturn, 1) := by decide +kernel
theorem dX8_strings_25 : decode cX8_strings 25 = .ok (.iconst 0, 1) := by decide +kernel
theorem dX8_strings_26 : decode cX8_strings 26 = .ok (.istore_n 3, 1) := by decide +kernel
theorem dX8_strings_27 : decode cX8_strings 27 = .ok (.iconst 1, 1) := by decide +kernel
theorem dX8_strings_28 : decode cX8_strings 28 = .ok (.aload_n 0, 1) := by decide +kernel
theorem dX8_strings_29 : decode cX8_strings 29 = .ok (.getfield 53, 3) := by decide +kernel
theorem dX8_strings_32 : decode cX8_strings 32 = .ok (.ishl, 1) := by decide +kernel
theorem dX8_strings_33 : decode cX8_strings 33 = .ok (.iconst 1, 1) := by decide +kernel
theorem dX8_strings_34 : decode cX8_strings 34 = .ok (.isub, 1) := by decide +kernel
theorem dX8_strings_35 : decode cX8_strings 35 = .ok (.istore 4, 2) := by decide +kernel
theorem dX8_strings_37 : decode cX8_strings 37 = .ok (.iconst 0, 1) := by decide +kernel
theorem dX8_strings_38 : decode cX8_strings 38 = .ok (.istore 5, 2) := by decide +kernel
theorem dX8_strings_40 : decode cX8_strings 40 = .ok (.iconst 0, 1) := by decide +kernel
theorem dX8_strings_41 : decode cX8_strings 41 = .ok (.istore 6, 2) := by decide +kernel
theorem dX8_strings_43 : decode cX8_strings 43 = .ok (.iload 6, 2) := by decide +kernel
theorem dX8_strings_45 : decode cX8_strings 45 = .ok (.iconst 1, 1) := by decide +kernel
theorem dX8_strings_46 : decode cX8_strings 46 = .ok (.aload_n 0, 1) := by decide +kernel
theorem dX8_strings_47 : decode cX8_strings 47 = .ok (.getfield 53, 3) := by decide +kernel
theorem dX8_strings_50 : decode cX8_strings 50 = .ok (.ishl, 1) := by decide +kernel
theorem dX8_strings_51 : decode cX8_strings 51 = .ok (.if_icmp .ge 36, 3) := by decide +kernel
theorem dX8_strings_54 : decode cX8_strings 54 = .ok (.aload_n 0, 1) := by decide +kernel
theorem dX8_strings_55 : decode cX8_strings 55 = .ok (.iload_n 1, 1) := by decide +kernel
theorem dX8_strings_56 : decode cX8_strings 56 = .ok (.iload 6, 2) := by decide +kernel
theorem dX8_strings_58 : decode cX8_strings 58 = .ok (.invokevirtual 192, 3) := by decide +kernel
theorem dX8_strings_61 : decode cX8_strings 61 = .ok (.ifCond .eq 20, 3) := by decide +kernel
theorem dX8_strings_64 : decode cX8_strings 64 = .ok (.iinc 3 1, 3) := by decide +kernel
theorem dX8_strings_67 : decode cX8_strings 67 = .ok (.iload 4, 2) := by decide +kernel
theorem dX8_strings_69 : decode cX8_strings 69 = .ok (.iload 6, 2) := by decide +kernel
theorem dX8_strings_71 : decode cX8_strings 71 = .ok (.iand, 1) := by decide +kernel
theorem dX8_strings_72 : decode cX8_strings 72 = .ok (.istore 4, 2) := by decide +kernel
theorem dX8_strings_74 : decode cX8_strings 74 = .ok (.iload 5, 2) := by decide +kernel
theorem dX8_strings_76 : decode cX8_strings 76 = .ok (.iload 6, 2) := by decide +kernel
theorem dX8_strings_78 : decode cX8_strings 78 = .ok (.ior, 1) := by decide +kernel
theorem dX8_strings_79 : decode cX8_strings 79 = .ok (.istore 5, 2) := by decide +kernel
theorem dX8_strings_81 : decode cX8_strings 81 = .ok (.iinc 6 1, 3) := by decide +kernel
theorem dX8_strings_84 : decode cX8_strings 84 = .ok (.goto (-41), 3) := by decide +kernel
theorem dX8_strings_87 : decode cX8_strings 87 = .ok (.iload_n 2, 1) := by decide +kernel
theorem dX8_strings_88 : decode cX8_strings 88 = .ok (.ifCond .ne 7, 3) := by decide +kernel
theorem dX8_strings_91 : decode cX8_strings 91 = .ok (.iload_n 3, 1) := by decide +kernel
theorem dX8_strings_92 : decode cX8_strings 92 = .ok (.goto 35, 3) := by decide +kernel
theorem dX8_strings_95 : decode cX8_strings 95 = .ok (.iload_n 3, 1) := by decide +kernel
theorem dX8_strings_96 : decode cX8_strings 96 = .ok (.ifCond .ne 8, 3) := by decide +kernel
theorem dX8_strings_99 : decode cX8_strings 99 = .ok (.bipush (-9), 2) := by decide +kernel
theorem dX8_strings_101 : decode cX8_strings 101 = .ok (.goto 26, 3) := by decide +kernel
theorem dX8_strings_104 : decode cX8_strings 104 = .ok (.iload_n 2, 1) := by decide +kernel
theorem dX8_strings_105 : decode cX8_strings 105 = .ok (.iconst 1, 1) := by decide +kernel
theorem dX8_strings_106 : decode cX8_strings 106 = .ok (.if_icmp .ne 8, 3) := by decide +kernel
theorem dX8_strings_109 : decode cX8_strings 109 = .ok (.iload 4, 2) := by decide +kernel
theorem dX8_strings_111 : decode cX8_strings 111 = .ok (.goto 16, 3) := by decide +kernel
theorem dX8_strings_114 : decode cX8_strings 114 = .ok (.iconst 1, 1) := by decide +kernel
theorem dX8_strings_115 : decode cX8_strings 115 = .ok (.aload_n 0, 1) := by decide +kernel
theorem dX8_strings_116 : decode cX8_strings 116 = .ok (.getfield 53, 3) := by decide +kernel
theorem dX8_strings_119 : decode cX8_strings 119 = .ok (.ishl, 1) := by decide +kernel
theorem dX8_strings_120 : decode cX8_strings 120 = .ok (.iconst 1, 1) := by decide +kernel
theorem dX8_strings_121 : decode cX8_strings 121 = .ok (.isub, 1) := by decide +kernel
theorem dX8_strings_122 : decode cX8_strings 122 = .ok (.iload 5, 2) := by decide +kernel
theorem dX8_strings_124 : decode cX8_strings 124 = .ok (.iconst (-1), 1) := by decide +kernel
theorem dX8_strings_125 : decode cX8_strings 125 = .ok (.ixor, 1) := by decide +kernel
theorem dX8_strings_126 : decode cX8_strings 126 = .ok (.iand, 1) := by decide +kernel
theorem dX8_strings_127 : decode cX8_strings 127 = .ok (.ireturn, 1) := by decide +kernel
set_option maxRecDepth 20000 in
theorem ggX8_winds_X8_isSeen : GoodIn wsX8_winds wsX8_isSeen := goodIn_r _ [6, 7, 8, 9, 10, 11, 12, 5, 13, 14, 15, 16, 17, 18, 19, 20, 21, 22, 23, 24, 25, 26, 27, 28, 29, 30, 31, 32, 33, 34, 35, 36, 37, 38, 39, 40, 41, 42, 43, 44, 45, 46, 47, 48, 49, 50, 51, 52, 53, 54, 55, 56, 57, 58, 59, 60, 61, 62, 63] (by decide +kernel) (by decide +kernel)
set_option maxRecDepth 20000 in
theorem gX8_winds_X8_isSeen : GoodIn wsX8_winds (wsV RX8 192 RX8 yX8_isSeen wsX8_isSeen) := goodIn_app (goodIn_of _ (by decide +kernel)) ggX8_winds_X8_isSeen
theorem dX8_winds_0 : decode cX8_winds 0 = .ok (.iconst 0, 1) := by decide +kernel
theorem dX8_winds_1 : decode cX8_winds 1 = .ok (.istore_n 1, 1) := by decide +kernel
theorem dX8_winds_2 : decode cX8_winds 2 = .ok (.iconst 0, 1) := by decide +kernel
theorem dX8_winds_3 : decode cX8_winds 3 = .ok (.istore_n 2, 1) := by decide +kernel
theorem dX8_winds_4 : decode cX8_winds 4 = .ok (.iload_n 2, 1) := by decide +kernel
theorem dX8_winds_5 : decode cX8_winds 5 = .ok (.aload_n 0, 1) := by decide +kernel
theorem dX8_winds_6 : decode cX8_winds 6 = .ok (.getfield 109, 3) := by decide +kernel
theorem dX8_winds_9 : decode cX8_winds 9 = .ok (.if_icmp .ge 28, 3) := by decide +kernel
theorem dX8_winds_12 : decode cX8_winds 12 = .ok (.iload_n 1, 1) := by decide +kernel
theorem dX8_winds_13 : decode cX8_winds 13 = .ok (.aload_n 0, 1) := by decide +kernel
theorem dX8_winds_14 : decode cX8_winds 14 = .ok (.iload_n 2, 1) := by decide +kernel
theorem dX8_winds_15 : decode cX8_winds 15 = .ok (.iconst 0, 1) := by decide +kernel
theorem dX8_winds_16 : decode cX8_winds 16 = .ok (.invokevirtual 192, 3) := by decide +kernel
theorem dX8_winds_19 : decode cX8_winds 19 = .ok (.ifCond .eq 9, 3) := by decide +kernel
theorem dX8_winds_22 : decode cX8_winds 22 = .ok (.iconst 1, 1) := by decide +kernel
theorem dX8_winds_23 : decode cX8_winds 23 = .ok (.iload_n 2, 1) := by decide +kernel
theorem dX8_winds_24 : decode cX8_winds 24 = .ok (.ishl, 1) := by decide +kernel
theorem dX8_winds_25 : decode cX8_winds 25 = .ok (.goto 4, 3) := by decide +kernel
theorem dX8_winds_28 : decode cX8_winds 28 = .ok (.iconst 0, 1) := by decide +kernel
theorem dX8_winds_29 : decode cX8_winds 29 = .ok (.ior, 1) := by decide +kernel
theorem dX8_winds_30 : decode cX8_winds 30 = .ok (.istore_n 1, 1) := by decide +kernel
theorem dX8_winds_31 : decode cX8_winds 31 = .ok (.iinc 2 1, 3) := by decide +kernel
theorem dX8_winds_34 : decode cX8_winds 34 = .ok (.goto (-30), 3) := by decide +kernel
theorem dX8_winds_37 : decode cX8_winds 37 = .ok (.iload_n 1, 1) := by decide +kernel
theorem dX8_winds_38 : decode cX8_winds 38 = .ok (.ireturn, 1) := by decide +kernel
set_option maxRecDepth 20000 in
theorem ggX8_isChoice_X8_isCock : GoodIn wsX8_isChoice wsX8_isCock := goodIn_r _ [6, 7, 8, 9, 5, 10, 11, 12, 13, 14, 15, 16, 17, 18, 19, 20, 21, 22, 23, 24, 25, 26, 27, 28, 29, 30, 31, 32, 33, 34, 35, 36, 37, 38, 39, 40, 41] (by decide +kernel) (by decide +kernel)
set_option maxRecDepth 20000 in
theorem gX8_isChoice_X8_isCock : GoodIn wsX8_isChoice (wsV RX8 115 RX8 yX8_isCock wsX8_isCock) := goodIn_app (goodIn_of _ (by decide +kernel)) ggX8_isChoice_X8_isCock
theorem dX8_isChoice_0 : decode cX8_isChoice 0 = .ok (.iload_n 2, 1) := by decide +kernel
theorem dX8_isChoice_1 : decode cX8_isChoice 1 = .ok (.ifCond .eq 30, 3) := by decide +kernel
theorem dX8_isChoice_4 : decode cX8_isChoice 4 = .ok (.aload_n 0, 1) := by decide +kernel
theorem dX8_isChoice_5 : decode cX8_isChoice 5 = .ok (.iload_n 2, 1) := by decide +kernel
theorem dX8_isChoice_6 : decode cX8_isChoice 6 = .ok (.iconst 1, 1) := by decide +kernel
theorem dX8_isChoice_7 : decode cX8_isChoice 7 = .ok (.isub, 1) := by decide +kernel
theorem dX8_isChoice_8 : decode cX8_isChoice 8 = .ok (.invokevirtual 115, 3) := by decide +kernel
theorem dX8_isChoice_11 : decode cX8_isChoice 11 = .ok (.ifCond .eq 24, 3) := by decide +kernel
theorem dX8_isChoice_14 : decode cX8_isChoice 14 = .ok (.aload_n 0, 1) := by decide +kernel
theorem dX8_isChoice_15 : decode cX8_isChoice 15 = .ok (.getfield 19, 3) := by decide +kernel
theorem dX8_isChoice_18 : decode cX8_isChoice 18 = .ok (.bipush 22, 2) := by decide +kernel
theorem dX8_isChoice_20 : decode cX8_isChoice 20 = .ok (.iaload, 1) := by decide +kernel
theorem dX8_isChoice_21 : decode cX8_isChoice 21 = .ok (.iload_n 2, 1) := by decide +kernel
theorem dX8_isChoice_22 : decode cX8_isChoice 22 = .ok (.iconst 1, 1) := by decide +kernel
theorem dX8_isChoice_23 : decode cX8_isChoice 23 = .ok (.isub, 1) := by decide +kernel
theorem dX8_isChoice_24 : decode cX8_isChoice 24 = .ok (.ishr, 1) := by decide +kernel
theorem dX8_isChoice_25 : decode cX8_isChoice 25 = .ok (.iconst 1, 1) := by decide +kernel
theorem dX8_isChoice_26 : decode cX8_isChoice 26 = .ok (.iand, 1) := by decide +kernel
theorem dX8_isChoice_27 : decode cX8_isChoice 27 = .ok (.iload_n 1, 1) := by decide +kernel
theorem dX8_isChoice_28 : decode cX8_isChoice 28 = .ok (.if_icmp .ne 7, 3) := by decide +kernel
theorem dX8_isChoice_31 : decode cX8_isChoice 31 = .ok (.iconst 1, 1) := by decide +kernel
theorem dX8_isChoice_32 : decode cX8_isChoice 32 = .ok (.goto 4, 3) := by decide +kernel
theorem dX8_isChoice_35 : decode cX8_isChoice 35 = .ok (.iconst 0, 1) := by decide +kernel
theorem dX8_isChoice_36 : decode cX8_isChoice 36 = .ok (.ireturn, 1) := by decide +kernel
set_option maxRecDepth 20000 in
theorem ggX8_heldBy_X8_underOf : GoodIn wsX8_heldBy wsX8_underOf := goodIn_r _ [5, 6, 7, 8, 4, 9, 10, 11, 12, 13, 14, 15, 16, 17, 18, 19, 20, 21, 22, 23, 24, 25, 26, 27, 28, 29, 30, 31, 32, 33, 34, 35, 36, 37, 38, 39, 40, 41, 42, 43, 44, 45, 46, 47, 48, 49, 50, 51, 52, 53, 54, 55, 56, 57, 58, 59, 60, 61, 62, 63, 64] (by decide +kernel) (by decide +kernel)
set_option maxRecDepth 20000 in
theorem gX8_heldBy_X8_underOf : GoodIn wsX8_heldBy (wsV RX8 151 RX8 yX8_underOf wsX8_underOf) := goodIn_app (goodIn_of _ (by decide +kernel)) ggX8_heldBy_X8_underOf
theorem dX8_heldBy_0 : decode cX8_heldBy 0 = .ok (.iload_n 2, 1) := by decide +kernel
theorem dX8_heldBy_1 : decode cX8_heldBy 1 = .ok (.ifCond .ne 7, 3) := by decide +kernel
theorem dX8_heldBy_4 : decode cX8_heldBy 4 = .ok (.iconst 0, 1) := by decide +kernel
theorem dX8_heldBy_5 : decode cX8_heldBy 5 = .ok (.goto 8, 3) := by decide +kernel
theorem dX8_heldBy_8 : decode cX8_heldBy 8 = .ok (.iconst 1, 1) := by decide +kernel
theorem dX8_heldBy_9 : decode cX8_heldBy 9 = .ok (.iload_n 2, 1) := by decide +kernel
theorem dX8_heldBy_10 : decode cX8_heldBy 10 = .ok (.iconst 1, 1) := by decide +kernel
theorem dX8_heldBy_11 : decode cX8_heldBy 11 = .ok (.isub, 1) := by decide +kernel
theorem dX8_heldBy_12 : decode cX8_heldBy 12 = .ok (.ishl, 1) := by decide +kernel
theorem dX8_heldBy_13 : decode cX8_heldBy 13 = .ok (.iload_n 3, 1) := by decide +kernel
theorem dX8_heldBy_14 : decode cX8_heldBy 14 = .ok (.ifCond .ne 7, 3) := by decide +kernel
theorem dX8_heldBy_17 : decode cX8_heldBy 17 = .ok (.iconst 0, 1) := by decide +kernel
theorem dX8_heldBy_18 : decode cX8_heldBy 18 = .ok (.goto 8, 3) := by decide +kernel
theorem dX8_heldBy_21 : decode cX8_heldBy 21 = .ok (.iconst 1, 1) := by decide +kernel
theorem dX8_heldBy_22 : decode cX8_heldBy 22 = .ok (.iload_n 3, 1) := by decide +kernel
theorem dX8_heldBy_23 : decode cX8_heldBy 23 = .ok (.iconst 1, 1) := by decide +kernel
theorem dX8_heldBy_24 : decode cX8_heldBy 24 = .ok (.isub, 1) := by decide +kernel
theorem dX8_heldBy_25 : decode cX8_heldBy 25 = .ok (.ishl, 1) := by decide +kernel
theorem dX8_heldBy_26 : decode cX8_heldBy 26 = .ok (.ior, 1) := by decide +kernel
theorem dX8_heldBy_27 : decode cX8_heldBy 27 = .ok (.istore 4, 2) := by decide +kernel
theorem dX8_heldBy_29 : decode cX8_heldBy 29 = .ok (.aload_n 0, 1) := by decide +kernel
theorem dX8_heldBy_30 : decode cX8_heldBy 30 = .ok (.iconst 0, 1) := by decide +kernel
theorem dX8_heldBy_31 : decode cX8_heldBy 31 = .ok (.iload_n 1, 1) := by decide +kernel
theorem dX8_heldBy_32 : decode cX8_heldBy 32 = .ok (.iload 4, 2) := by decide +kernel
theorem dX8_heldBy_34 : decode cX8_heldBy 34 = .ok (.invokevirtual 151, 3) := by decide +kernel
theorem dX8_heldBy_37 : decode cX8_heldBy 37 = .ok (.ireturn, 1) := by decide +kernel
set_option maxRecDepth 20000 in
theorem ggX8_isRest_X8_heldBy : GoodIn wsX8_isRest wsX8_heldBy := goodIn_r _ [5, 6, 7, 8, 4, 9, 10, 11, 12, 13, 14, 15, 16, 17, 18, 19, 20, 21, 22, 23, 24, 25, 26, 27, 28, 29, 30, 31, 32, 33, 34, 35, 36, 37, 46, 47, 48, 49, 50, 51, 52, 53, 54, 55, 56, 57, 58, 59, 60, 61, 62, 63, 64, 65, 66, 67, 68, 69, 70, 71, 72, 73, 74, 75, 76] (by decide +kernel) (by decide +kernel)
set_option maxRecDepth 20000 in
theorem gX8_isRest_X8_heldBy : GoodIn wsX8_isRest (wsV RX8 195 RX8 yX8_heldBy wsX8_heldBy) := goodIn_app (goodIn_of _ (by decide +kernel)) ggX8_isRest_X8_heldBy
set_option maxRecDepth 20000 in
theorem ggX8_isRest_X8_isChoice : GoodIn wsX8_isRest wsX8_isChoice := goodIn_r _ [41, 14, 42, 43, 44, 4, 45, 15, 26, 27, 28, 46, 47, 48, 49, 50, 51, 52, 53, 54, 55, 56, 57, 58, 59, 60, 61, 62, 63, 64, 65, 66, 67, 68, 69, 70, 71, 72, 73, 74, 75, 76] (by decide +kernel) (by decide +kernel)
set_option maxRecDepth 20000 in
theorem gX8_isRest_X8_isChoice : GoodIn wsX8_isRest (wsV RX8 198 RX8 yX8_isChoice wsX8_isChoice) := goodIn_app (goodIn_of _ (by decide +kernel)) ggX8_isRest_X8_isChoice
theorem dX8_isRest_0 : decode cX8_isRest 0 = .ok (.iconst 1, 1) := by decide +kernel
theorem dX8_isRest_1 : decode cX8_isRest 1 = .ok (.istore 4, 2) := by decide +kernel
theorem dX8_isRest_3 : decode cX8_isRest 3 = .ok (.aload_n 0, 1) := by decide +kernel
theorem dX8_isRest_4 : decode cX8_isRest 4 = .ok (.iload_n 1, 1) := by decide +kernel
theorem dX8_isRest_5 : decode cX8_isRest 5 = .ok (.iload_n 2, 1) := by decide +kernel
theorem dX8_isRest_6 : decode cX8_isRest 6 = .ok (.iload_n 3, 1) := by decide +kernel
theorem dX8_isRest_7 : decode cX8_isRest 7 = .ok (.invokevirtual 195, 3) := by decide +kernel
theorem dX8_isRest_10 : decode cX8_isRest 10 = .ok (.istore 5, 2) := by decide +kernel
theorem dX8_isRest_12 : decode cX8_isRest 12 = .ok (.iconst 0, 1) := by decide +kernel
theorem dX8_isRest_13 : decode cX8_isRest 13 = .ok (.istore 6, 2) := by decide +kernel
theorem dX8_isRest_15 : decode cX8_isRest 15 = .ok (.iload 6, 2) := by decide +kernel
theorem dX8_isRest_17 : decode cX8_isRest 17 = .ok (.bipush 7, 2) := by decide +kernel
theorem dX8_isRest_19 : decode cX8_isRest 19 = .ok (.if_icmp .ge 87, 3) := by decide +kernel
theorem dX8_isRest_22 : decode cX8_isRest 22 = .ok (.iload 4, 2) := by decide +kernel
theorem dX8_isRest_24 : decode cX8_isRest 24 = .ok (.ifCond .eq 33, 3) := by decide +kernel
theorem dX8_isRest_27 : decode cX8_isRest 27 = .ok (.iload 5, 2) := by decide +kernel
theorem dX8_isRest_29 : decode cX8_isRest 29 = .ok (.ifCond .eq 24, 3) := by decide +kernel
theorem dX8_isRest_32 : decode cX8_isRest 32 = .ok (.aload_n 0, 1) := by decide +kernel
theorem dX8_isRest_33 : decode cX8_isRest 33 = .ok (.iconst 0, 1) := by decide +kernel
theorem dX8_isRest_34 : decode cX8_isRest 34 = .ok (.iload 6, 2) := by decide +kernel
theorem dX8_isRest_36 : decode cX8_isRest 36 = .ok (.invokevirtual 198, 3) := by decide +kernel
theorem dX8_isRest_39 : decode cX8_isRest 39 = .ok (.ifCond .eq 14, 3) := by decide +kernel
theorem dX8_isRest_42 : decode cX8_isRest 42 = .ok (.aload_n 0, 1) := by decide +kernel
theorem dX8_isRest_43 : decode cX8_isRest 43 = .ok (.iload_n 1, 1) := by decide +kernel
theorem dX8_isRest_44 : decode cX8_isRest 44 = .ok (.iload 6, 2) := by decide +kernel
theorem dX8_isRest_46 : decode cX8_isRest 46 = .ok (.iload_n 3, 1) := by decide +kernel
theorem dX8_isRest_47 : decode cX8_isRest 47 = .ok (.invokevirtual 195, 3) := by decide +kernel
theorem dX8_isRest_50 : decode cX8_isRest 50 = .ok (.ifCond .eq 7, 3) := by decide +kernel
theorem dX8_isRest_53 : decode cX8_isRest 53 = .ok (.iconst 1, 1) := by decide +kernel
theorem dX8_isRest_54 : decode cX8_isRest 54 = .ok (.goto 4, 3) := by decide +kernel
theorem dX8_isRest_57 : decode cX8_isRest 57 = .ok (.iconst 0, 1) := by decide +kernel
theorem dX8_isRest_58 : decode cX8_isRest 58 = .ok (.istore 4, 2) := by decide +kernel
theorem dX8_isRest_60 : decode cX8_isRest 60 = .ok (.iload 4, 2) := by decide +kernel
theorem dX8_isRest_62 : decode cX8_isRest 62 = .ok (.ifCond .eq 35, 3) := by decide +kernel
theorem dX8_isRest_65 : decode cX8_isRest 65 = .ok (.iload 5, 2) := by decide +kernel
theorem dX8_isRest_67 : decode cX8_isRest 67 = .ok (.iconst 1, 1) := by decide +kernel
theorem dX8_isRest_68 : decode cX8_isRest 68 = .ok (.if_icmp .eq 25, 3) := by decide +kernel
theorem dX8_isRest_71 : decode cX8_isRest 71 = .ok (.aload_n 0, 1) := by decide +kernel
theorem dX8_isRest_72 : decode cX8_isRest 72 = .ok (.iconst 1, 1) := by decide +kernel
theorem dX8_isRest_73 : decode cX8_isRest 73 = .ok (.iload 6, 2) := by decide +kernel
theorem dX8_isRest_75 : decode cX8_isRest 75 = .ok (.invokevirtual 198, 3) := by decide +kernel
theorem dX8_isRest_78 : decode cX8_isRest 78 = .ok (.ifCond .eq 15, 3) := by decide +kernel
theorem dX8_isRest_81 : decode cX8_isRest 81 = .ok (.aload_n 0, 1) := by decide +kernel
theorem dX8_isRest_82 : decode cX8_isRest 82 = .ok (.iload_n 1, 1) := by decide +kernel
theorem dX8_isRest_83 : decode cX8_isRest 83 = .ok (.iload_n 2, 1) := by decide +kernel
theorem dX8_isRest_84 : decode cX8_isRest 84 = .ok (.iload 6, 2) := by decide +kernel
theorem dX8_isRest_86 : decode cX8_isRest 86 = .ok (.invokevirtual 195, 3) := by decide +kernel
theorem dX8_isRest_89 : decode cX8_isRest 89 = .ok (.iconst 1, 1) := by decide +kernel
theorem dX8_isRest_90 : decode cX8_isRest 90 = .ok (.if_icmp .eq 7, 3) := by decide +kernel
theorem dX8_isRest_93 : decode cX8_isRest 93 = .ok (.iconst 1, 1) := by decide +kernel
theorem dX8_isRest_94 : decode cX8_isRest 94 = .ok (.goto 4, 3) := by decide +kernel
theorem dX8_isRest_97 : decode cX8_isRest 97 = .ok (.iconst 0, 1) := by decide +kernel
theorem dX8_isRest_98 : decode cX8_isRest 98 = .ok (.istore 4, 2) := by decide +kernel
theorem dX8_isRest_100 : decode cX8_isRest 100 = .ok (.iinc 6 1, 3) := by decide +kernel
theorem dX8_isRest_103 : decode cX8_isRest 103 = .ok (.goto (-88), 3) := by decide +kernel
theorem dX8_isRest_106 : decode cX8_isRest 106 = .ok (.iload 4, 2) := by decide +kernel
theorem dX8_isRest_108 : decode cX8_isRest 108 = .ok (.ireturn, 1) := by decide +kernel
set_option maxRecDepth 20000 in
theorem ggX8_rests_X8_isWind : GoodIn wsX8_rests wsX8_isWind := goodIn_r _ [5, 6, 7, 8, 4, 9, 55, 56, 57, 58, 59, 60, 61, 62, 63, 64, 65, 66, 67, 68, 69, 70, 71, 72, 73, 74, 75, 76, 77, 78, 79, 80, 81, 82, 83, 84, 85] (by decide +kernel) (by decide +kernel)
set_option maxRecDepth 20000 in
theorem gX8_rests_X8_isWind : GoodIn wsX8_rests (wsV RX8 133 RX8 yX8_isWind wsX8_isWind) := goodIn_app (goodIn_of _ (by decide +kernel)) ggX8_rests_X8_isWind
set_option maxRecDepth 20000 in
theorem ggX8_rests_X8_in : GoodIn wsX8_rests wsX8_in := goodIn_r _ [9] (by decide +kernel) (by decide +kernel)
set_option maxRecDepth 20000 in
theorem gX8_rests_X8_in : GoodIn wsX8_rests (va_wsS RX8 59 yX8_in wsX8_in) := goodIn_app (goodIn_of _ (by decide +kernel)) ggX8_rests_X8_in
set_option maxRecDepth 20000 in
theorem ggX8_rests_X8_isChoice : GoodIn wsX8_rests wsX8_isChoice := goodIn_r _ [13, 14, 15, 16, 17, 4, 18, 19, 7, 8, 9, 55, 56, 57, 58, 59, 60, 61, 62, 63, 64, 65, 66, 67, 68, 69, 70, 71, 72, 73, 74, 75, 76, 77, 78, 79, 80, 81, 82, 83, 84, 85] (by decide +kernel) (by decide +kernel)
set_option maxRecDepth 20000 in
theorem gX8_rests_X8_isChoice : GoodIn wsX8_rests (wsV RX8 198 RX8 yX8_isChoice wsX8_isChoice) := goodIn_app (goodIn_of _ (by decide +kernel)) ggX8_rests_X8_isChoice
set_option maxRecDepth 20000 in
theorem ggX8_rests_X8_isRest : GoodIn wsX8_rests wsX8_isRest := goodIn_r _ [23, 24, 25, 26, 4, 27, 28, 29, 30, 31, 32, 33, 34, 35, 14, 19, 36, 37, 38, 39, 40, 41, 42, 43, 44, 45, 7, 8, 9, 46, 47, 48, 49, 50, 51, 52, 53, 54, 10, 11, 12, 13, 15, 16, 17, 18, 55, 56, 57, 58, 59, 60, 61, 62, 63, 64, 65, 66, 67, 68, 69, 70, 71, 72, 73, 74, 75, 76, 77, 78, 79, 80, 81, 82, 83, 84, 85] (by decide +kernel) (by decide +kernel)
set_option maxRecDepth 20000 in
theorem gX8_rests_X8_isRest : GoodIn wsX8_rests (wsV RX8 201 RX8 yX8_isRest wsX8_isRest) := goodIn_app (goodIn_of _ (by decide +kernel)) ggX8_rests_X8_isRest
theorem dX8_rests_0 : decode cX8_rests 0 = .ok (.aload_n 0, 1) := by decide +kernel
theorem dX8_rests_1 : decode cX8_rests 1 = .ok (.iload_n 1, 1) := by decide +kernel
theorem dX8_rests_2 : decode cX8_rests 2 = .ok (.invokevirtual 133, 3) := by decide +kernel
theorem dX8_rests_5 : decode cX8_rests 5 = .ok (.ifCond .ne 5, 3) := by decide +kernel
theorem dX8_rests_8 : decode cX8_rests 8 = .ok (.iconst (-1), 1) := by decide +kernel
theorem dX8_rests_9 : decode cX8_rests 9 = .ok (.ireturn, 1) := by decide +kernel
theorem dX8_rests_10 : decode cX8_rests 10 = .ok (.iload_n 2, 1) := by decide +kernel
theorem dX8_rests_11 : decode cX8_rests 11 = .ok (.i2l, 1) := by decide +kernel
theorem dX8_rests_12 : decode cX8_rests 12 = .ok (.lconst 0, 1) := by decide +kernel
theorem dX8_rests_13 : decode cX8_rests 13 = .ok (.lconst 1, 1) := by decide +kernel
theorem dX8_rests_14 : decode cX8_rests 14 = .ok (.invokestatic 59, 3) := by decide +kernel
theorem dX8_rests_17 : decode cX8_rests 17 = .ok (.ifCond .ne 6, 3) := by decide +kernel
theorem dX8_rests_20 : decode cX8_rests 20 = .ok (.bipush (-2), 2) := by decide +kernel
theorem dX8_rests_22 : decode cX8_rests 22 = .ok (.ireturn, 1) := by decide +kernel
theorem dX8_rests_23 : decode cX8_rests 23 = .ok (.iconst 0, 1) := by decide +kernel
theorem dX8_rests_24 : decode cX8_rests 24 = .ok (.istore_n 3, 1) := by decide +kernel
theorem dX8_rests_25 : decode cX8_rests 25 = .ok (.bipush (-9), 2) := by decide +kernel
theorem dX8_rests_27 : decode cX8_rests 27 = .ok (.istore 4, 2) := by decide +kernel
theorem dX8_rests_29 : decode cX8_rests 29 = .ok (.iconst 0, 1) := by decide +kernel
theorem dX8_rests_30 : decode cX8_rests 30 = .ok (.istore 5, 2) := by decide +kernel
theorem dX8_rests_32 : decode cX8_rests 32 = .ok (.iload 5, 2) := by decide +kernel
theorem dX8_rests_34 : decode cX8_rests 34 = .ok (.bipush 7, 2) := by decide +kernel
theorem dX8_rests_36 : decode cX8_rests 36 = .ok (.if_icmp .ge 79, 3) := by decide +kernel
theorem dX8_rests_39 : decode cX8_rests 39 = .ok (.iconst 0, 1) := by decide +kernel
theorem dX8_rests_40 : decode cX8_rests 40 = .ok (.istore 6, 2) := by decide +kernel
theorem dX8_rests_42 : decode cX8_rests 42 = .ok (.iload 6, 2) := by decide +kernel
theorem dX8_rests_44 : decode cX8_rests 44 = .ok (.bipush 7, 2) := by decide +kernel
theorem dX8_rests_46 : decode cX8_rests 46 = .ok (.if_icmp .ge 63, 3) := by decide +kernel
theorem dX8_rests_49 : decode cX8_rests 49 = .ok (.aload_n 0, 1) := by decide +kernel
theorem dX8_rests_50 : decode cX8_rests 50 = .ok (.iconst 0, 1) := by decide +kernel
theorem dX8_rests_51 : decode cX8_rests 51 = .ok (.iload 5, 2) := by decide +kernel
theorem dX8_rests_53 : decode cX8_rests 53 = .ok (.invokevirtual 198, 3) := by decide +kernel
theorem dX8_rests_56 : decode cX8_rests 56 = .ok (.ifCond .eq 47, 3) := by decide +kernel
theorem dX8_rests_59 : decode cX8_rests 59 = .ok (.aload_n 0, 1) := by decide +kernel
theorem dX8_rests_60 : decode cX8_rests 60 = .ok (.iconst 1, 1) := by decide +kernel
theorem dX8_rests_61 : decode cX8_rests 61 = .ok (.iload 6, 2) := by decide +kernel
theorem dX8_rests_63 : decode cX8_rests 63 = .ok (.invokevirtual 198, 3) := by decide +kernel
theorem dX8_rests_66 : decode cX8_rests 66 = .ok (.ifCond .eq 37, 3) := by decide +kernel
theorem dX8_rests_69 : decode cX8_rests 69 = .ok (.aload_n 0, 1) := by decide +kernel
theorem dX8_rests_70 : decode cX8_rests 70 = .ok (.iload_n 1, 1) := by decide +kernel
theorem dX8_rests_71 : decode cX8_rests 71 = .ok (.iload 5, 2) := by decide +kernel
theorem dX8_rests_73 : decode cX8_rests 73 = .ok (.iload 6, 2) := by decide +kernel
theorem dX8_rests_75 : decode cX8_rests 75 = .ok (.invokevirtual 201, 3) := by decide +kernel
theorem dX8_rests_78 : decode cX8_rests 78 = .ok (.ifCond .eq 25, 3) := by decide +kernel
theorem dX8_rests_81 : decode cX8_rests 81 = .ok (.iload_n 3, 1) := by decide +kernel
theorem dX8_rests_82 : decode cX8_rests 82 = .ok (.ifCond .ne 14, 3) := by decide +kernel
theorem dX8_rests_85 : decode cX8_rests 85 = .ok (.bipush 10, 2) := by decide +kernel
theorem dX8_rests_87 : decode cX8_rests 87 = .ok (.iload 5, 2) := by decide +kernel
theorem dX8_rests_89 : decode cX8_rests 89 = .ok (.imul, 1) := by decide +kernel
theorem dX8_rests_90 : decode cX8_rests 90 = .ok (.iload 6, 2) := by decide +kernel
theorem dX8_rests_92 : decode cX8_rests 92 = .ok (.iadd, 1) := by decide +kernel
theorem dX8_rests_93 : decode cX8_rests 93 = .ok (.goto 5, 3) := by decide +kernel
theorem dX8_rests_96 : decode cX8_rests 96 = .ok (.iload 4, 2) := by decide +kernel
theorem dX8_rests_98 : decode cX8_rests 98 = .ok (.istore 4, 2) := by decide +kernel
theorem dX8_rests_100 : decode cX8_rests 100 = .ok (.iinc 3 1, 3) := by decide +kernel
theorem dX8_rests_103 : decode cX8_rests 103 = .ok (.iinc 6 1, 3) := by decide +kernel
theorem dX8_rests_106 : decode cX8_rests 106 = .ok (.goto (-64), 3) := by decide +kernel
theorem dX8_rests_109 : decode cX8_rests 109 = .ok (.iinc 5 1, 3) := by decide +kernel
theorem dX8_rests_112 : decode cX8_rests 112 = .ok (.goto (-80), 3) := by decide +kernel
theorem dX8_rests_115 : decode cX8_rests 115 = .ok (.iload_n 2, 1) := by decide +kernel
theorem dX8_rests_116 : decode cX8_rests 116 = .ok (.ifCond .ne 7, 3) := by decide +kernel
theorem dX8_rests_119 : decode cX8_rests 119 = .ok (.iload_n 3, 1) := by decide +kernel
theorem dX8_rests_120 : decode cX8_rests 120 = .ok (.goto 5, 3) := by decide +kernel
theorem dX8_rests_123 : decode cX8_rests 123 = .ok (.iload 4, 2) := by decide +kernel
theorem dX8_rests_125 : decode cX8_rests 125 = .ok (.ireturn, 1) := by decide +kernel
theorem dX8_common_0 : decode cX8_common 0 = .ok (.iload_n 0, 1) := by decide +kernel
theorem dX8_common_1 : decode cX8_common 1 = .ok (.istore_n 2, 1) := by decide +kernel
theorem dX8_common_2 : decode cX8_common 2 = .ok (.iload_n 1, 1) := by decide +kernel
theorem dX8_common_3 : decode cX8_common 3 = .ok (.istore_n 3, 1) := by decide +kernel
theorem dX8_common_4 : decode cX8_common 4 = .ok (.iload_n 3, 1) := by decide +kernel
theorem dX8_common_5 : decode cX8_common 5 = .ok (.ifCond .eq 16, 3) := by decide +kernel
theorem dX8_common_8 : decode cX8_common 8 = .ok (.iload_n 2, 1) := by decide +kernel
theorem dX8_common_9 : decode cX8_common 9 = .ok (.iload_n 3, 1) := by decide +kernel
theorem dX8_common_10 : decode cX8_common 10 = .ok (.irem, 1) := by decide +kernel
theorem dX8_common_11 : decode cX8_common 11 = .ok (.istore 4, 2) := by decide +kernel
theorem dX8_common_13 : decode cX8_common 13 = .ok (.iload_n 3, 1) := by decide +kernel
theorem dX8_common_14 : decode cX8_common 14 = .ok (.istore_n 2, 1) := by decide +kernel
theorem dX8_common_15 : decode cX8_common 15 = .ok (.iload 4, 2) := by decide +kernel
theorem dX8_common_17 : decode cX8_common 17 = .ok (.istore_n 3, 1) := by decide +kernel
theorem dX8_common_18 : decode cX8_common 18 = .ok (.goto (-14), 3) := by decide +kernel
theorem dX8_common_21 : decode cX8_common 21 = .ok (.iload_n 2, 1) := by decide +kernel
theorem dX8_common_22 : decode cX8_common 22 = .ok (.ireturn, 1) := by decide +kernel
set_option maxRecDepth 20000 in
theorem ggX8_frost_X8_isWind : GoodIn wsX8_frost wsX8_isWind := goodIn_r _ [8, 9, 10, 11, 7, 12, 43, 44, 45, 46, 47, 48, 49, 50, 51, 52, 53, 54, 55, 56, 57, 58, 59, 60, 61, 62, 63, 64, 65, 66, 67, 68, 69, 70, 71, 72, 73] (by decide +kernel) (by decide +kernel)
set_option maxRecDepth 20000 in
theorem gX8_frost_X8_isWind : GoodIn wsX8_frost (wsV RX8 133 RX8 yX8_isWind wsX8_isWind) := goodIn_app (goodIn_of _ (by decide +kernel)) ggX8_frost_X8_isWind
set_option maxRecDepth 20000 in
theorem ggX8_frost_X8_in : GoodIn wsX8_frost wsX8_in := goodIn_r _ [12] (by decide +kernel) (by decide +kernel)
set_option maxRecDepth 20000 in
theorem gX8_frost_X8_in : GoodIn wsX8_frost (va_wsS RX8 59 yX8_in wsX8_in) := goodIn_app (goodIn_of _ (by decide +kernel)) ggX8_frost_X8_in
set_option maxRecDepth 20000 in
theorem ggX8_frost_X8_has : GoodIn wsX8_frost wsX8_has := goodIn_r _ [15] (by decide +kernel) (by decide +kernel)
set_option maxRecDepth 20000 in
theorem gX8_frost_X8_has : GoodIn wsX8_frost (va_wsS RX8 74 yX8_has wsX8_has) := goodIn_app (goodIn_of _ (by decide +kernel)) ggX8_frost_X8_has
set_option maxRecDepth 20000 in
theorem ggX8_frost_X8_underOf : GoodIn wsX8_frost wsX8_underOf := goodIn_r _ [19, 20, 21, 22, 7, 23, 3, 2, 24, 13, 14, 15, 25, 26, 27, 28, 29, 30, 10, 11, 12, 31, 32, 33, 34, 35, 36, 37, 38, 39, 43, 44, 45, 46, 47, 48, 49, 50, 51, 52, 53, 54, 55, 56, 57, 58, 59, 60, 61, 62, 63, 64, 65, 66, 67, 68, 69, 70, 71, 72, 73] (by decide +kernel) (by decide +kernel)
set_option maxRecDepth 20000 in
theorem gX8_frost_X8_underOf : GoodIn wsX8_frost (wsV RX8 151 RX8 yX8_underOf wsX8_underOf) := goodIn_app (goodIn_of _ (by decide +kernel)) ggX8_frost_X8_underOf
set_option maxRecDepth 20000 in
theorem ggX8_frost_X8_common : GoodIn wsX8_frost wsX8_common := goodIn_r _ [42] (by decide +kernel) (by decide +kernel)
set_option maxRecDepth 20000 in
theorem gX8_frost_X8_common : GoodIn wsX8_frost (va_wsS RX8 206 yX8_common wsX8_common) := goodIn_app (goodIn_of _ (by decide +kernel)) ggX8_frost_X8_common
theorem dX8_frost_0 : decode cX8_frost 0 = .ok (.aload_n 0, 1) := by decide +kernel
theorem dX8_frost_1 : decode cX8_frost 1 = .ok (.iload_n 1, 1) := by decide +kernel
theorem dX8_frost_2 : decode cX8_frost 2 = .ok (.invokevirtual 133, 3) := by decide +kernel
theorem dX8_frost_5 : decode cX8_frost 5 = .ok (.ifCond .ne 5, 3) := by decide +kernel
theorem dX8_frost_8 : decode cX8_frost 8 = .ok (.iconst (-1), 1) := by decide +kernel
theorem dX8_frost_9 : decode cX8_frost 9 = .ok (.ireturn, 1) := by decide +kernel
theorem dX8_frost_10 : decode cX8_frost 10 = .ok (.iload_n 2, 1) := by decide +kernel
theorem dX8_frost_11 : decode cX8_frost 11 = .ok (.i2l, 1) := by decide +kernel
theorem dX8_frost_12 : decode cX8_frost 12 = .ok (.lconst 0, 1) := by decide +kernel
theorem dX8_frost_13 : decode cX8_frost 13 = .ok (.ldc2_w 204, 3) := by decide +kernel
theorem dX8_frost_16 : decode cX8_frost 16 = .ok (.invokestatic 59, 3) := by decide +kernel
theorem dX8_frost_19 : decode cX8_frost 19 = .ok (.ifCond .ne 6, 3) := by decide +kernel
theorem dX8_frost_22 : decode cX8_frost 22 = .ok (.bipush (-2), 2) := by decide +kernel
theorem dX8_frost_24 : decode cX8_frost 24 = .ok (.ireturn, 1) := by decide +kernel
theorem dX8_frost_25 : decode cX8_frost 25 = .ok (.iconst 0, 1) := by decide +kernel
theorem dX8_frost_26 : decode cX8_frost 26 = .ok (.istore 4, 2) := by decide +kernel
theorem dX8_frost_28 : decode cX8_frost 28 = .ok (.iconst 0, 1) := by decide +kernel
theorem dX8_frost_29 : decode cX8_frost 29 = .ok (.istore 5, 2) := by decide +kernel
theorem dX8_frost_31 : decode cX8_frost 31 = .ok (.iconst 0, 1) := by decide +kernel
theorem dX8_frost_32 : decode cX8_frost 32 = .ok (.istore 6, 2) := by decide +kernel
theorem dX8_frost_34 : decode cX8_frost 34 = .ok (.iload 6, 2) := by decide +kernel
theorem dX8_frost_36 : decode cX8_frost 36 = .ok (.iconst 1, 1) := by decide +kernel
theorem dX8_frost_37 : decode cX8_frost 37 = .ok (.aload_n 0, 1) := by decide +kernel
theorem dX8_frost_38 : decode cX8_frost 38 = .ok (.getfield 53, 3) := by decide +kernel
theorem dX8_frost_41 : decode cX8_frost 41 = .ok (.ishl, 1) := by decide +kernel
theorem dX8_frost_42 : decode cX8_frost 42 = .ok (.if_icmp .ge 90, 3) := by decide +kernel
theorem dX8_frost_45 : decode cX8_frost 45 = .ok (.iconst 1, 1) := by decide +kernel
theorem dX8_frost_46 : decode cX8_frost 46 = .ok (.istore 7, 2) := by decide +kernel
theorem dX8_frost_48 : decode cX8_frost 48 = .ok (.iconst 0, 1) := by decide +kernel
theorem dX8_frost_49 : decode cX8_frost 49 = .ok (.istore 8, 2) := by decide +kernel
theorem dX8_frost_51 : decode cX8_frost 51 = .ok (.iload 8, 2) := by decide +kernel
theorem dX8_frost_53 : decode cX8_frost 53 = .ok (.aload_n 0, 1) := by decide +kernel
theorem dX8_frost_54 : decode cX8_frost 54 = .ok (.getfield 53, 3) := by decide +kernel
theorem dX8_frost_57 : decode cX8_frost 57 = .ok (.if_icmp .ge 32, 3) := by decide +kernel
theorem dX8_frost_60 : decode cX8_frost 60 = .ok (.iload 7, 2) := by decide +kernel
theorem dX8_frost_62 : decode cX8_frost 62 = .ok (.iload 6, 2) := by decide +kernel
theorem dX8_frost_64 : decode cX8_frost 64 = .ok (.iload 8, 2) := by decide +kernel
theorem dX8_frost_66 : decode cX8_frost 66 = .ok (.invokestatic 74, 3) := by decide +kernel
theorem dX8_frost_69 : decode cX8_frost 69 = .ok (.ifCond .eq 7, 3) := by decide +kernel
theorem dX8_frost_72 : decode cX8_frost 72 = .ok (.iload_n 2, 1) := by decide +kernel
theorem dX8_frost_73 : decode cX8_frost 73 = .ok (.goto 7, 3) := by decide +kernel
theorem dX8_frost_76 : decode cX8_frost 76 = .ok (.bipush 10, 2) := by decide +kernel
theorem dX8_frost_78 : decode cX8_frost 78 = .ok (.iload_n 2, 1) := by decide +kernel
theorem dX8_frost_79 : decode cX8_frost 79 = .ok (.isub, 1) := by decide +kernel
theorem dX8_frost_80 : decode cX8_frost 80 = .ok (.imul, 1) := by decide +kernel
theorem dX8_frost_81 : decode cX8_frost 81 = .ok (.istore 7, 2) := by decide +kernel
theorem dX8_frost_83 : decode cX8_frost 83 = .ok (.iinc 8 1, 3) := by decide +kernel
theorem dX8_frost_86 : decode cX8_frost 86 = .ok (.goto (-35), 3) := by decide +kernel
theorem dX8_frost_89 : decode cX8_frost 89 = .ok (.iload 5, 2) := by decide +kernel
theorem dX8_frost_91 : decode cX8_frost 91 = .ok (.iload 7, 2) := by decide +kernel
theorem dX8_frost_93 : decode cX8_frost 93 = .ok (.iadd, 1) := by decide +kernel
theorem dX8_frost_94 : decode cX8_frost 94 = .ok (.istore 5, 2) := by decide +kernel
theorem dX8_frost_96 : decode cX8_frost 96 = .ok (.iload 4, 2) := by decide +kernel
theorem dX8_frost_98 : decode cX8_frost 98 = .ok (.aload_n 0, 1) := by decide +kernel
theorem dX8_frost_99 : decode cX8_frost 99 = .ok (.iconst 0, 1) := by decide +kernel
theorem dX8_frost_100 : decode cX8_frost 100 = .ok (.iload_n 1, 1) := by decide +kernel
theorem dX8_frost_101 : decode cX8_frost 101 = .ok (.aload_n 0, 1) := by decide +kernel
theorem dX8_frost_102 : decode cX8_frost 102 = .ok (.getfield 19, 3) := by decide +kernel
theorem dX8_frost_105 : decode cX8_frost 105 = .ok (.bipush 24, 2) := by decide +kernel
theorem dX8_frost_107 : decode cX8_frost 107 = .ok (.iaload, 1) := by decide +kernel
theorem dX8_frost_108 : decode cX8_frost 108 = .ok (.iload 6, 2) := by decide +kernel
theorem dX8_frost_110 : decode cX8_frost 110 = .ok (.ior, 1) := by decide +kernel
theorem dX8_frost_111 : decode cX8_frost 111 = .ok (.invokevirtual 151, 3) := by decide +kernel
theorem dX8_frost_114 : decode cX8_frost 114 = .ok (.ifCond .ne 8, 3) := by decide +kernel
theorem dX8_frost_117 : decode cX8_frost 117 = .ok (.iload 7, 2) := by decide +kernel
theorem dX8_frost_119 : decode cX8_frost 119 = .ok (.goto 4, 3) := by decide +kernel
theorem dX8_frost_122 : decode cX8_frost 122 = .ok (.iconst 0, 1) := by decide +kernel
theorem dX8_frost_123 : decode cX8_frost 123 = .ok (.iadd, 1) := by decide +kernel
theorem dX8_frost_124 : decode cX8_frost 124 = .ok (.istore 4, 2) := by decide +kernel
theorem dX8_frost_126 : decode cX8_frost 126 = .ok (.iinc 6 1, 3) := by decide +kernel
theorem dX8_frost_129 : decode cX8_frost 129 = .ok (.goto (-95), 3) := by decide +kernel
theorem dX8_frost_132 : decode cX8_frost 132 = .ok (.iload 4, 2) := by decide +kernel
theorem dX8_frost_134 : decode cX8_frost 134 = .ok (.iload 5, 2) := by decide +kernel
theorem dX8_frost_136 : decode cX8_frost 136 = .ok (.invokestatic 206, 3) := by decide +kernel
theorem dX8_frost_139 : decode cX8_frost 139 = .ok (.istore 6, 2) := by decide +kernel
theorem dX8_frost_141 : decode cX8_frost 141 = .ok (.iload_n 3, 1) := by decide +kernel
theorem dX8_frost_142 : decode cX8_frost 142 = .ok (.ifCond .eq 11, 3) := by decide +kernel
theorem dX8_frost_145 : decode cX8_frost 145 = .ok (.iload 4, 2) := by decide +kernel
theorem dX8_frost_147 : decode cX8_frost 147 = .ok (.iload 6, 2) := by decide +kernel
theorem dX8_frost_149 : decode cX8_frost 149 = .ok (.idiv, 1) := by decide +kernel
theorem dX8_frost_150 : decode cX8_frost 150 = .ok (.goto 8, 3) := by decide +kernel
theorem dX8_frost_153 : decode cX8_frost 153 = .ok (.iload 5, 2) := by decide +kernel
theorem dX8_frost_155 : decode cX8_frost 155 = .ok (.iload 6, 2) := by decide +kernel
theorem dX8_frost_157 : decode cX8_frost 157 = .ok (.idiv, 1) := by decide +kernel
theorem dX8_frost_158 : decode cX8_frost 158 = .ok (.ireturn, 1) := by decide +kernel
theorem dX8_seed_0 : decode cX8_seed 0 = .ok (.aload_n 0, 1) := by decide +kernel
theorem dX8_seed_1 : decode cX8_seed 1 = .ok (.getfield 209, 3) := by decide +kernel
theorem dX8_seed_4 : decode cX8_seed 4 = .ok (.lstore_n 3, 1) := by decide +kernel
theorem dX8_seed_5 : decode cX8_seed 5 = .ok (.aload_n 0, 1) := by decide +kernel
theorem dX8_seed_6 : decode cX8_seed 6 = .ok (.lload_n 1, 1) := by decide +kernel
theorem dX8_seed_7 : decode cX8_seed 7 = .ok (.putfield 209, 3) := by decide +kernel
theorem dX8_seed_10 : decode cX8_seed 10 = .ok (.lload_n 3, 1) := by decide +kernel
theorem dX8_seed_11 : decode cX8_seed 11 = .ok (.lreturn, 1) := by decide +kernel
set_option maxRecDepth 20000 in
theorem ggX8_years_X8_in : GoodIn wsX8_years wsX8_in := goodIn_r _ [11] (by decide +kernel) (by decide +kernel)
set_option maxRecDepth 20000 in
theorem gX8_years_X8_in : GoodIn wsX8_years (va_wsS RX8 59 yX8_in wsX8_in) := goodIn_app (goodIn_of _ (by decide +kernel)) ggX8_years_X8_in
set_option maxRecDepth 20000 in
theorem ggX8_years_X8_layTrial : GoodIn wsX8_years wsX8_layTrial := goodIn_r _ [15, 7, 43, 44, 45, 46, 47, 48, 49, 50, 51, 52, 53, 54, 55, 56, 57, 58, 59, 60, 61, 62, 63, 64, 65, 66, 67, 68, 69, 70, 71, 72, 73] (by decide +kernel) (by decide +kernel)
set_option maxRecDepth 20000 in
theorem gX8_years_X8_layTrial : GoodIn wsX8_years (wsV RX8 181 RX8 yX8_layTrial wsX8_layTrial) := goodIn_app (goodIn_of _ (by decide +kernel)) ggX8_years_X8_layTrial
set_option maxRecDepth 20000 in
theorem ggX8_years_X8_blowOn : GoodIn wsX8_years wsX8_blowOn := goodIn_r _ [19, 7, 20, 21, 22, 10, 23, 24, 3, 25, 26, 27, 28, 29, 30, 31, 32, 33, 8, 9, 11, 34, 35, 36, 37, 38, 39, 40, 41, 42, 43, 44, 45, 46, 47, 48, 49, 50, 51, 52, 53, 54, 55, 56, 57, 58, 59, 60, 61, 62, 63, 64, 65, 66, 67, 68, 69, 70, 71, 72, 73] (by decide +kernel) (by decide +kernel)
set_option maxRecDepth 20000 in
theorem gX8_years_X8_blowOn : GoodIn wsX8_years (wsV RX8 144 RX8 yX8_blowOn wsX8_blowOn) := goodIn_app (goodIn_of _ (by decide +kernel)) ggX8_years_X8_blowOn
theorem dX8_years_0 : decode cX8_years 0 = .ok (.iload_n 1, 1) := by decide +kernel
theorem dX8_years_1 : decode cX8_years 1 = .ok (.i2l, 1) := by decide +kernel
theorem dX8_years_2 : decode cX8_years 2 = .ok (.lconst 1, 1) := by decide +kernel
theorem dX8_years_3 : decode cX8_years 3 = .ok (.ldc2_w 213, 3) := by decide +kernel
theorem dX8_years_6 : decode cX8_years 6 = .ok (.invokestatic 59, 3) := by decide +kernel
theorem dX8_years_9 : decode cX8_years 9 = .ok (.ifCond .ne 6, 3) := by decide +kernel
theorem dX8_years_12 : decode cX8_years 12 = .ok (.bipush (-2), 2) := by decide +kernel
theorem dX8_years_14 : decode cX8_years 14 = .ok (.ireturn, 1) := by decide +kernel
theorem dX8_years_15 : decode cX8_years 15 = .ok (.aload_n 0, 1) := by decide +kernel
theorem dX8_years_16 : decode cX8_years 16 = .ok (.invokevirtual 181, 3) := by decide +kernel
theorem dX8_years_19 : decode cX8_years 19 = .ok (.iconst 0, 1) := by decide +kernel
theorem dX8_years_20 : decode cX8_years 20 = .ok (.istore_n 2, 1) := by decide +kernel
theorem dX8_years_21 : decode cX8_years 21 = .ok (.iconst 0, 1) := by decide +kernel
theorem dX8_years_22 : decode cX8_years 22 = .ok (.istore_n 3, 1) := by decide +kernel
theorem dX8_years_23 : decode cX8_years 23 = .ok (.iload_n 3, 1) := by decide +kernel
theorem dX8_years_24 : decode cX8_years 24 = .ok (.aload_n 0, 1) := by decide +kernel
theorem dX8_years_25 : decode cX8_years 25 = .ok (.getfield 109, 3) := by decide +kernel
theorem dX8_years_28 : decode cX8_years 28 = .ok (.if_icmp .ge 22, 3) := by decide +kernel
theorem dX8_years_31 : decode cX8_years 31 = .ok (.iload_n 2, 1) := by decide +kernel
theorem dX8_years_32 : decode cX8_years 32 = .ok (.aload_n 0, 1) := by decide +kernel
theorem dX8_years_33 : decode cX8_years 33 = .ok (.getfield 16, 3) := by decide +kernel
theorem dX8_years_36 : decode cX8_years 36 = .ok (.iconst 3, 1) := by decide +kernel
theorem dX8_years_37 : decode cX8_years 37 = .ok (.iload_n 3, 1) := by decide +kernel
theorem dX8_years_38 : decode cX8_years 38 = .ok (.imul, 1) := by decide +kernel
theorem dX8_years_39 : decode cX8_years 39 = .ok (.iconst 2, 1) := by decide +kernel
theorem dX8_years_40 : decode cX8_years 40 = .ok (.iadd, 1) := by decide +kernel
theorem dX8_years_41 : decode cX8_years 41 = .ok (.iaload, 1) := by decide +kernel
theorem dX8_years_42 : decode cX8_years 42 = .ok (.iadd, 1) := by decide +kernel
theorem dX8_years_43 : decode cX8_years 43 = .ok (.istore_n 2, 1) := by decide +kernel
theorem dX8_years_44 : decode cX8_years 44 = .ok (.iinc 3 1, 3) := by decide +kernel
theorem dX8_years_47 : decode cX8_years 47 = .ok (.goto (-24), 3) := by decide +kernel
theorem dX8_years_50 : decode cX8_years 50 = .ok (.iconst 0, 1) := by decide +kernel
theorem dX8_years_51 : decode cX8_years 51 = .ok (.istore_n 3, 1) := by decide +kernel
theorem dX8_years_52 : decode cX8_years 52 = .ok (.iconst 0, 1) := by decide +kernel
theorem dX8_years_53 : decode cX8_years 53 = .ok (.istore 4, 2) := by decide +kernel
theorem dX8_years_55 : decode cX8_years 55 = .ok (.iload 4, 2) := by decide +kernel
theorem dX8_years_57 : decode cX8_years 57 = .ok (.iload_n 1, 1) := by decide +kernel
theorem dX8_years_58 : decode cX8_years 58 = .ok (.if_icmp .ge 111, 3) := by decide +kernel
theorem dX8_years_61 : decode cX8_years 61 = .ok (.aload_n 0, 1) := by decide +kernel
theorem dX8_years_62 : decode cX8_years 62 = .ok (.getfield 109, 3) := by decide +kernel
theorem dX8_years_65 : decode cX8_years 65 = .ok (.ifCond .le 104, 3) := by decide +kernel
theorem dX8_years_68 : decode cX8_years 68 = .ok (.aload_n 0, 1) := by decide +kernel
theorem dX8_years_69 : decode cX8_years 69 = .ok (.aload_n 0, 1) := by decide +kernel
theorem dX8_years_70 : decode cX8_years 70 = .ok (.getfield 209, 3) := by decide +kernel
theorem dX8_years_73 : decode cX8_years 73 = .ok (.ldc2_w 215, 3) := by decide +kernel
theorem dX8_years_76 : decode cX8_years 76 = .ok (.lmul, 1) := by decide +kernel
theorem dX8_years_77 : decode cX8_years 77 = .ok (.ldc2_w 217, 3) := by decide +kernel
theorem dX8_years_80 : decode cX8_years 80 = .ok (.ladd, 1) := by decide +kernel
theorem dX8_years_81 : decode cX8_years 81 = .ok (.putfield 209, 3) := by decide +kernel
theorem dX8_years_84 : decode cX8_years 84 = .ok (.aload_n 0, 1) := by decide +kernel
theorem dX8_years_85 : decode cX8_years 85 = .ok (.getfield 209, 3) := by decide +kernel
theorem dX8_years_88 : decode cX8_years 88 = .ok (.bipush 33, 2) := by decide +kernel
theorem dX8_years_90 : decode cX8_years 90 = .ok (.lushr, 1) := by decide +kernel
theorem dX8_years_91 : decode cX8_years 91 = .ok (.iload_n 2, 1) := by decide +kernel
theorem dX8_years_92 : decode cX8_years 92 = .ok (.i2l, 1) := by decide +kernel
theorem dX8_years_93 : decode cX8_years 93 = .ok (.lrem, 1) := by decide +kernel
theorem dX8_years_94 : decode cX8_years 94 = .ok (.l2i, 1) := by decide +kernel
theorem dX8_years_95 : decode cX8_years 95 = .ok (.istore 5, 2) := by decide +kernel
theorem dX8_years_97 : decode cX8_years 97 = .ok (.iconst 0, 1) := by decide +kernel
theorem dX8_years_98 : decode cX8_years 98 = .ok (.istore 6, 2) := by decide +kernel
theorem dX8_years_100 : decode cX8_years 100 = .ok (.iload 5, 2) := by decide +kernel
theorem dX8_years_102 : decode cX8_years 102 = .ok (.aload_n 0, 1) := by decide +kernel
theorem dX8_years_103 : decode cX8_years 103 = .ok (.getfield 16, 3) := by decide +kernel
theorem dX8_years_106 : decode cX8_years 106 = .ok (.iconst 3, 1) := by decide +kernel
theorem dX8_years_107 : decode cX8_years 107 = .ok (.iload 6, 2) := by decide +kernel
theorem dX8_years_109 : decode cX8_years 109 = .ok (.imul, 1) := by decide +kernel
theorem dX8_years_110 : decode cX8_years 110 = .ok (.iconst 2, 1) := by decide +kernel
theorem dX8_years_111 : decode cX8_years 111 = .ok (.iadd, 1) := by decide +kernel
theorem dX8_years_112 : decode cX8_years 112 = .ok (.iaload, 1) := by decide +kernel
theorem dX8_years_113 : decode cX8_years 113 = .ok (.if_icmp .lt 25, 3) := by decide +kernel
theorem dX8_years_116 : decode cX8_years 116 = .ok (.iload 5, 2) := by decide +kernel
theorem dX8_years_118 : decode cX8_years 118 = .ok (.aload_n 0, 1) := by decide +kernel
theorem dX8_years_119 : decode cX8_years 119 = .ok (.getfield 16, 3) := by decide +kernel
theorem dX8_years_122 : decode cX8_years 122 = .ok (.iconst 3, 1) := by decide +kernel
theorem dX8_years_123 : decode cX8_years 123 = .ok (.iload 6, 2) := by decide +kernel
theorem dX8_years_125 : decode cX8_years 125 = .ok (.imul, 1) := by decide +kernel
theorem dX8_years_126 : decode cX8_years 126 = .ok (.iconst 2, 1) := by decide +kernel
theorem dX8_years_127 : decode cX8_years 127 = .ok (.iadd, 1) := by decide +kernel
theorem dX8_years_128 : decode cX8_years 128 = .ok (.iaload, 1) := by decide +kernel
theorem dX8_years_129 : decode cX8_years 129 = .ok (.isub, 1) := by decide +kernel
theorem dX8_years_130 : decode cX8_years 130 = .ok (.istore 5, 2) := by decide +kernel
theorem dX8_years_132 : decode cX8_years 132 = .ok (.iinc 6 1, 3) := by decide +kernel
theorem dX8_years_135 : decode cX8_years 135 = .ok (.goto (-35), 3) := by decide +kernel
theorem dX8_years_138 : decode cX8_years 138 = .ok (.aload_n 0, 1) := by decide +kernel
theorem dX8_years_139 : decode cX8_years 139 = .ok (.iconst 1, 1) := by decide +kernel
theorem dX8_years_140 : decode cX8_years 140 = .ok (.iload 6, 2) := by decide +kernel
theorem dX8_years_142 : decode cX8_years 142 = .ok (.invokevirtual 144, 3) := by decide +kernel
theorem dX8_years_145 : decode cX8_years 145 = .ok (.iload_n 3, 1) := by decide +kernel
theorem dX8_years_146 : decode cX8_years 146 = .ok (.aload_n 0, 1) := by decide +kernel
theorem dX8_years_147 : decode cX8_years 147 = .ok (.getfield 19, 3) := by decide +kernel
theorem dX8_years_150 : decode cX8_years 150 = .ok (.bipush 52, 2) := by decide +kernel
theorem dX8_years_152 : decode cX8_years 152 = .ok (.iaload, 1) := by decide +kernel
theorem dX8_years_153 : decode cX8_years 153 = .ok (.ifCond .ne 7, 3) := by decide +kernel
theorem dX8_years_156 : decode cX8_years 156 = .ok (.iconst 1, 1) := by decide +kernel
theorem dX8_years_157 : decode cX8_years 157 = .ok (.goto 4, 3) := by decide +kernel
theorem dX8_years_160 : decode cX8_years 160 = .ok (.iconst 0, 1) := by decide +kernel
theorem dX8_years_161 : decode cX8_years 161 = .ok (.iadd, 1) := by decide +kernel
theorem dX8_years_162 : decode cX8_years 162 = .ok (.istore_n 3, 1) := by decide +kernel
theorem dX8_years_163 : decode cX8_years 163 = .ok (.iinc 4 1, 3) := by decide +kernel
theorem dX8_years_166 : decode cX8_years 166 = .ok (.goto (-111), 3) := by decide +kernel
theorem dX8_years_169 : decode cX8_years 169 = .ok (.iload_n 3, 1) := by decide +kernel
theorem dX8_years_170 : decode cX8_years 170 = .ok (.ireturn, 1) := by decide +kernel
set_option maxRecDepth 20000 in
theorem ggX8_keep_X8_in : GoodIn wsX8_keep wsX8_in := goodIn_r _ [7] (by decide +kernel) (by decide +kernel)
set_option maxRecDepth 20000 in
theorem gX8_keep_X8_in : GoodIn wsX8_keep (va_wsS RX8 59 yX8_in wsX8_in) := goodIn_app (goodIn_of _ (by decide +kernel)) ggX8_keep_X8_in
theorem dX8_keep_0 : decode cX8_keep 0 = .ok (.iload_n 1, 1) := by decide +kernel
theorem dX8_keep_1 : decode cX8_keep 1 = .ok (.i2l, 1) := by decide +kernel
theorem dX8_keep_2 : decode cX8_keep 2 = .ok (.lconst 0, 1) := by decide +kernel
theorem dX8_keep_3 : decode cX8_keep 3 = .ok (.lconst 1, 1) := by decide +kernel
theorem dX8_keep_4 : decode cX8_keep 4 = .ok (.invokestatic 59, 3) := by decide +kernel
theorem dX8_keep_7 : decode cX8_keep 7 = .ok (.ifCond .ne 5, 3) := by decide +kernel
theorem dX8_keep_10 : decode cX8_keep 10 = .ok (.iconst (-1), 1) := by decide +kernel
theorem dX8_keep_11 : decode cX8_keep 11 = .ok (.ireturn, 1) := by decide +kernel
theorem dX8_keep_12 : decode cX8_keep 12 = .ok (.aload_n 0, 1) := by decide +kernel
theorem dX8_keep_13 : decode cX8_keep 13 = .ok (.getfield 46, 3) := by decide +kernel
theorem dX8_keep_16 : decode cX8_keep 16 = .ok (.iload_n 1, 1) := by decide +kernel
theorem dX8_keep_17 : decode cX8_keep 17 = .ok (.iconst 1, 1) := by decide +kernel
theorem dX8_keep_18 : decode cX8_keep 18 = .ok (.bastore, 1) := by decide +kernel
theorem dX8_keep_19 : decode cX8_keep 19 = .ok (.iconst 0, 1) := by decide +kernel
theorem dX8_keep_20 : decode cX8_keep 20 = .ok (.istore_n 2, 1) := by decide +kernel
theorem dX8_keep_21 : decode cX8_keep 21 = .ok (.iload_n 2, 1) := by decide +kernel
theorem dX8_keep_22 : decode cX8_keep 22 = .ok (.bipush 27, 2) := by decide +kernel
theorem dX8_keep_24 : decode cX8_keep 24 = .ok (.if_icmp .ge 26, 3) := by decide +kernel
theorem dX8_keep_27 : decode cX8_keep 27 = .ok (.aload_n 0, 1) := by decide +kernel
theorem dX8_keep_28 : decode cX8_keep 28 = .ok (.getfield 50, 3) := by decide +kernel
theorem dX8_keep_31 : decode cX8_keep 31 = .ok (.bipush 27, 2) := by decide +kernel
theorem dX8_keep_33 : decode cX8_keep 33 = .ok (.iload_n 1, 1) := by decide +kernel
theorem dX8_keep_34 : decode cX8_keep 34 = .ok (.imul, 1) := by decide +kernel
theorem dX8_keep_35 : decode cX8_keep 35 = .ok (.iload_n 2, 1) := by decide +kernel
theorem dX8_keep_36 : decode cX8_keep 36 = .ok (.iadd, 1) := by decide +kernel
theorem dX8_keep_37 : decode cX8_keep 37 = .ok (.aload_n 0, 1) := by decide +kernel
theorem dX8_keep_38 : decode cX8_keep 38 = .ok (.getfield 19, 3) := by decide +kernel
theorem dX8_keep_41 : decode cX8_keep 41 = .ok (.iload_n 2, 1) := by decide +kernel
theorem dX8_keep_42 : decode cX8_keep 42 = .ok (.iaload, 1) := by decide +kernel
theorem dX8_keep_43 : decode cX8_keep 43 = .ok (.iastore, 1) := by decide +kernel
theorem dX8_keep_44 : decode cX8_keep 44 = .ok (.iinc 2 1, 3) := by decide +kernel
theorem dX8_keep_47 : decode cX8_keep 47 = .ok (.goto (-26), 3) := by decide +kernel
theorem dX8_keep_50 : decode cX8_keep 50 = .ok (.aload_n 0, 1) := by decide +kernel
theorem dX8_keep_51 : decode cX8_keep 51 = .ok (.getfield 19, 3) := by decide +kernel
theorem dX8_keep_54 : decode cX8_keep 54 = .ok (.bipush 26, 2) := by decide +kernel
theorem dX8_keep_56 : decode cX8_keep 56 = .ok (.iaload, 1) := by decide +kernel
theorem dX8_keep_57 : decode cX8_keep 57 = .ok (.ireturn, 1) := by decide +kernel
set_option maxRecDepth 20000 in
theorem ggX8_again_X8_in : GoodIn wsX8_again wsX8_in := goodIn_r _ [8] (by decide +kernel) (by decide +kernel)
set_option maxRecDepth 20000 in
theorem gX8_again_X8_in : GoodIn wsX8_again (va_wsS RX8 59 yX8_in wsX8_in) := goodIn_app (goodIn_of _ (by decide +kernel)) ggX8_again_X8_in
theorem dX8_again_0 : decode cX8_again 0 = .ok (.iload_n 1, 1) := by decide +kernel
theorem dX8_again_1 : decode cX8_again 1 = .ok (.i2l, 1) := by decide +kernel
theorem dX8_again_2 : decode cX8_again 2 = .ok (.lconst 0, 1) := by decide +kernel
theorem dX8_again_3 : decode cX8_again 3 = .ok (.lconst 1, 1) := by decide +kernel
theorem dX8_again_4 : decode cX8_again 4 = .ok (.invokestatic 59, 3) := by decide +kernel
theorem dX8_again_7 : decode cX8_again 7 = .ok (.ifCond .ne 5, 3) := by decide +kernel
theorem dX8_again_10 : decode cX8_again 10 = .ok (.iconst (-1), 1) := by decide +kernel
theorem dX8_again_11 : decode cX8_again 11 = .ok (.ireturn, 1) := by decide +kernel
theorem dX8_again_12 : decode cX8_again 12 = .ok (.aload_n 0, 1) := by decide +kernel
theorem dX8_again_13 : decode cX8_again 13 = .ok (.getfield 46, 3) := by decide +kernel
theorem dX8_again_16 : decode cX8_again 16 = .ok (.iload_n 1, 1) := by decide +kernel
theorem dX8_again_17 : decode cX8_again 17 = .ok (.baload, 1) := by decide +kernel
theorem dX8_again_18 : decode cX8_again 18 = .ok (.ifCond .ne 6, 3) := by decide +kernel
theorem dX8_again_21 : decode cX8_again 21 = .ok (.bipush (-3), 2) := by decide +kernel
theorem dX8_again_23 : decode cX8_again 23 = .ok (.ireturn, 1) := by decide +kernel
theorem dX8_again_24 : decode cX8_again 24 = .ok (.iconst 0, 1) := by decide +kernel
theorem dX8_again_25 : decode cX8_again 25 = .ok (.istore_n 2, 1) := by decide +kernel
theorem dX8_again_26 : decode cX8_again 26 = .ok (.iload_n 2, 1) := by decide +kernel
theorem dX8_again_27 : decode cX8_again 27 = .ok (.bipush 27, 2) := by decide +kernel
theorem dX8_again_29 : decode cX8_again 29 = .ok (.if_icmp .ge 26, 3) := by decide +kernel
theorem dX8_again_32 : decode cX8_again 32 = .ok (.aload_n 0, 1) := by decide +kernel
theorem dX8_again_33 : decode cX8_again 33 = .ok (.getfield 19, 3) := by decide +kernel
theorem dX8_again_36 : decode cX8_again 36 = .ok (.iload_n 2, 1) := by decide +kernel
theorem dX8_again_37 : decode cX8_again 37 = .ok (.aload_n 0, 1) := by decide +kernel
theorem dX8_again_38 : decode cX8_again 38 = .ok (.getfield 50, 3) := by decide +kernel
theorem dX8_again_41 : decode cX8_again 41 = .ok (.bipush 27, 2) := by decide +kernel
theorem dX8_again_43 : decode cX8_again 43 = .ok (.iload_n 1, 1) := by decide +kernel
theorem dX8_again_44 : decode cX8_again 44 = .ok (.imul, 1) := by decide +kernel
theorem dX8_again_45 : decode cX8_again 45 = .ok (.iload_n 2, 1) := by decide +kernel
theorem dX8_again_46 : decode cX8_again 46 = .ok (.iadd, 1) := by decide +kernel
theorem dX8_again_47 : decode cX8_again 47 = .ok (.iaload, 1) := by decide +kernel
theorem dX8_again_48 : decode cX8_again 48 = .ok (.iastore, 1) := by decide +kernel
theorem dX8_again_49 : decode cX8_again 49 = .ok (.iinc 2 1, 3) := by decide +kernel
theorem dX8_again_52 : decode cX8_again 52 = .ok (.goto (-26), 3) := by decide +kernel
theorem dX8_again_55 : decode cX8_again 55 = .ok (.aload_n 0, 1) := by decide +kernel
theorem dX8_again_56 : decode cX8_again 56 = .ok (.iconst 0, 1) := by decide +kernel
theorem dX8_again_57 : decode cX8_again 57 = .ok (.putfield 112, 3) := by decide +kernel
theorem dX8_again_60 : decode cX8_again 60 = .ok (.aload_n 0, 1) := by decide +kernel
theorem dX8_again_61 : decode cX8_again 61 = .ok (.getfield 19, 3) := by decide +kernel
theorem dX8_again_64 : decode cX8_again 64 = .ok (.bipush 26, 2) := by decide +kernel
theorem dX8_again_66 : decode cX8_again 66 = .ok (.iaload, 1) := by decide +kernel
theorem dX8_again_67 : decode cX8_again 67 = .ok (.ireturn, 1) := by decide +kernel
set_option maxRecDepth 20000 in
theorem ggX8_count_X8_weightOf : GoodIn wsX8_count wsX8_weightOf := goodIn_r _ [11, 2, 4, 12, 13, 14, 10, 15, 20, 21, 22, 23, 24, 25, 26, 27, 28, 29, 30, 31, 32, 33, 34, 35, 36, 37, 38, 39, 40, 41, 42, 43, 44, 45, 46, 47, 48, 49, 50] (by decide +kernel) (by decide +kernel)
set_option maxRecDepth 20000 in
theorem gX8_count_X8_weightOf : GoodIn wsX8_count (wsV RX8 123 RX8 yX8_weightOf wsX8_weightOf) := goodIn_app (goodIn_of _ (by decide +kernel)) ggX8_count_X8_weightOf
set_option maxRecDepth 20000 in
theorem ggX8_count_X8_treesNow : GoodIn wsX8_count wsX8_treesNow := goodIn_r _ [19, 4, 20, 21, 22, 23, 24, 25, 26, 27, 28, 29, 30, 31, 32, 33, 34, 35, 36, 37, 38, 39, 40, 41, 42, 43, 44, 45, 46, 47, 48, 49, 50] (by decide +kernel) (by decide +kernel)
set_option maxRecDepth 20000 in
theorem gX8_count_X8_treesNow : GoodIn wsX8_count (wsV RX8 175 RX8 yX8_treesNow wsX8_treesNow) := goodIn_app (goodIn_of _ (by decide +kernel)) ggX8_count_X8_treesNow
theorem dX8_count_0 : decode cX8_count 0 = .ok (.iload_n 1, 1) := by decide +kernel
theorem dX8_count_1 : decode cX8_count 1 = .ok (.tableswitch 141 0 10 #[59, 64, 69, 74, 82, 90, 104, 118, 123, 131, 136], 59) := by decide +kernel
theorem dX8_count_60 : decode cX8_count 60 = .ok (.aload_n 0, 1) := by decide +kernel
theorem dX8_count_61 : decode cX8_count 61 = .ok (.getfield 63, 3) := by decide +kernel
theorem dX8_count_64 : decode cX8_count 64 = .ok (.ireturn, 1) := by decide +kernel
theorem dX8_count_65 : decode cX8_count 65 = .ok (.aload_n 0, 1) := by decide +kernel
theorem dX8_count_66 : decode cX8_count 66 = .ok (.getfield 53, 3) := by decide +kernel
theorem dX8_count_69 : decode cX8_count 69 = .ok (.ireturn, 1) := by decide +kernel
theorem dX8_count_70 : decode cX8_count 70 = .ok (.aload_n 0, 1) := by decide +kernel
theorem dX8_count_71 : decode cX8_count 71 = .ok (.getfield 109, 3) := by decide +kernel
theorem dX8_count_74 : decode cX8_count 74 = .ok (.ireturn, 1) := by decide +kernel
theorem dX8_count_75 : decode cX8_count 75 = .ok (.aload_n 0, 1) := by decide +kernel
theorem dX8_count_76 : decode cX8_count 76 = .ok (.getfield 19, 3) := by decide +kernel
theorem dX8_count_79 : decode cX8_count 79 = .ok (.bipush 25, 2) := by decide +kernel
theorem dX8_count_81 : decode cX8_count 81 = .ok (.iaload, 1) := by decide +kernel
theorem dX8_count_82 : decode cX8_count 82 = .ok (.ireturn, 1) := by decide +kernel
theorem dX8_count_83 : decode cX8_count 83 = .ok (.aload_n 0, 1) := by decide +kernel
theorem dX8_count_84 : decode cX8_count 84 = .ok (.getfield 19, 3) := by decide +kernel
theorem dX8_count_87 : decode cX8_count 87 = .ok (.bipush 26, 2) := by decide +kernel
theorem dX8_count_89 : decode cX8_count 89 = .ok (.iaload, 1) := by decide +kernel
theorem dX8_count_90 : decode cX8_count 90 = .ok (.ireturn, 1) := by decide +kernel
theorem dX8_count_91 : decode cX8_count 91 = .ok (.aload_n 0, 1) := by decide +kernel
theorem dX8_count_92 : decode cX8_count 92 = .ok (.iconst 0, 1) := by decide +kernel
theorem dX8_count_93 : decode cX8_count 93 = .ok (.iconst 0, 1) := by decide +kernel
theorem dX8_count_94 : decode cX8_count 94 = .ok (.aload_n 0, 1) := by decide +kernel
theorem dX8_count_95 : decode cX8_count 95 = .ok (.getfield 19, 3) := by decide +kernel
theorem dX8_count_98 : decode cX8_count 98 = .ok (.bipush 23, 2) := by decide +kernel
theorem dX8_count_100 : decode cX8_count 100 = .ok (.iaload, 1) := by decide +kernel
theorem dX8_count_101 : decode cX8_count 101 = .ok (.invokevirtual 123, 3) := by decide +kernel
theorem dX8_count_104 : decode cX8_count 104 = .ok (.ireturn, 1) := by decide +kernel
theorem dX8_count_105 : decode cX8_count 105 = .ok (.aload_n 0, 1) := by decide +kernel
theorem dX8_count_106 : decode cX8_count 106 = .ok (.iconst 0, 1) := by decide +kernel
theorem dX8_count_107 : decode cX8_count 107 = .ok (.iconst 1, 1) := by decide +kernel
theorem dX8_count_108 : decode cX8_count 108 = .ok (.aload_n 0, 1) := by decide +kernel
theorem dX8_count_109 : decode cX8_count 109 = .ok (.getfield 19, 3) := by decide +kernel
theorem dX8_count_112 : decode cX8_count 112 = .ok (.bipush 23, 2) := by decide +kernel
theorem dX8_count_114 : decode cX8_count 114 = .ok (.iaload, 1) := by decide +kernel
theorem dX8_count_115 : decode cX8_count 115 = .ok (.invokevirtual 123, 3) := by decide +kernel
theorem dX8_count_118 : decode cX8_count 118 = .ok (.ireturn, 1) := by decide +kernel
theorem dX8_count_119 : decode cX8_count 119 = .ok (.aload_n 0, 1) := by decide +kernel
theorem dX8_count_120 : decode cX8_count 120 = .ok (.invokevirtual 175, 3) := by decide +kernel
theorem dX8_count_123 : decode cX8_count 123 = .ok (.ireturn, 1) := by decide +kernel
theorem dX8_count_124 : decode cX8_count 124 = .ok (.aload_n 0, 1) := by decide +kernel
theorem dX8_count_125 : decode cX8_count 125 = .ok (.getfield 19, 3) := by decide +kernel
theorem dX8_count_128 : decode cX8_count 128 = .ok (.bipush 24, 2) := by decide +kernel
theorem dX8_count_130 : decode cX8_count 130 = .ok (.iaload, 1) := by decide +kernel
theorem dX8_count_131 : decode cX8_count 131 = .ok (.ireturn, 1) := by decide +kernel
theorem dX8_count_132 : decode cX8_count 132 = .ok (.aload_n 0, 1) := by decide +kernel
theorem dX8_count_133 : decode cX8_count 133 = .ok (.getfield 112, 3) := by decide +kernel
theorem dX8_count_136 : decode cX8_count 136 = .ok (.ireturn, 1) := by decide +kernel
theorem dX8_count_137 : decode cX8_count 137 = .ok (.aload_n 0, 1) := by decide +kernel
theorem dX8_count_138 : decode cX8_count 138 = .ok (.getfield 189, 3) := by decide +kernel
theorem dX8_count_141 : decode cX8_count 141 = .ok (.ireturn, 1) := by decide +kernel
theorem dX8_count_142 : decode cX8_count 142 = .ok (.bipush (-2), 2) := by decide +kernel
theorem dX8_count_144 : decode cX8_count 144 = .ok (.ireturn, 1) := by decide +kernel
theorem dJ6_bitCount_0f7a4_0 : decode cJ6_bitCount_0f7a4 0 = .ok (.iload_n 0, 1) := by decide +kernel
theorem dJ6_bitCount_0f7a4_1 : decode cJ6_bitCount_0f7a4 1 = .ok (.iload_n 0, 1) := by decide +kernel
theorem dJ6_bitCount_0f7a4_2 : decode cJ6_bitCount_0f7a4 2 = .ok (.iconst 1, 1) := by decide +kernel
theorem dJ6_bitCount_0f7a4_3 : decode cJ6_bitCount_0f7a4 3 = .ok (.iushr, 1) := by decide +kernel
theorem dJ6_bitCount_0f7a4_4 : decode cJ6_bitCount_0f7a4 4 = .ok (.ldc_w 265, 3) := by decide +kernel
theorem dJ6_bitCount_0f7a4_7 : decode cJ6_bitCount_0f7a4 7 = .ok (.iand, 1) := by decide +kernel
theorem dJ6_bitCount_0f7a4_8 : decode cJ6_bitCount_0f7a4 8 = .ok (.isub, 1) := by decide +kernel
theorem dJ6_bitCount_0f7a4_9 : decode cJ6_bitCount_0f7a4 9 = .ok (.istore_n 0, 1) := by decide +kernel
theorem dJ6_bitCount_0f7a4_10 : decode cJ6_bitCount_0f7a4 10 = .ok (.iload_n 0, 1) := by decide +kernel
theorem dJ6_bitCount_0f7a4_11 : decode cJ6_bitCount_0f7a4 11 = .ok (.ldc_w 266, 3) := by decide +kernel
theorem dJ6_bitCount_0f7a4_14 : decode cJ6_bitCount_0f7a4 14 = .ok (.iand, 1) := by decide +kernel
theorem dJ6_bitCount_0f7a4_15 : decode cJ6_bitCount_0f7a4 15 = .ok (.iload_n 0, 1) := by decide +kernel
theorem dJ6_bitCount_0f7a4_16 : decode cJ6_bitCount_0f7a4 16 = .ok (.iconst 2, 1) := by decide +kernel
theorem dJ6_bitCount_0f7a4_17 : decode cJ6_bitCount_0f7a4 17 = .ok (.iushr, 1) := by decide +kernel
theorem dJ6_bitCount_0f7a4_18 : decode cJ6_bitCount_0f7a4 18 = .ok (.ldc_w 266, 3) := by decide +kernel
theorem dJ6_bitCount_0f7a4_21 : decode cJ6_bitCount_0f7a4 21 = .ok (.iand, 1) := by decide +kernel
theorem dJ6_bitCount_0f7a4_22 : decode cJ6_bitCount_0f7a4 22 = .ok (.iadd, 1) := by decide +kernel
theorem dJ6_bitCount_0f7a4_23 : decode cJ6_bitCount_0f7a4 23 = .ok (.istore_n 0, 1) := by decide +kernel
theorem dJ6_bitCount_0f7a4_24 : decode cJ6_bitCount_0f7a4 24 = .ok (.iload_n 0, 1) := by decide +kernel
theorem dJ6_bitCount_0f7a4_25 : decode cJ6_bitCount_0f7a4 25 = .ok (.iload_n 0, 1) := by decide +kernel
theorem dJ6_bitCount_0f7a4_26 : decode cJ6_bitCount_0f7a4 26 = .ok (.iconst 4, 1) := by decide +kernel
theorem dJ6_bitCount_0f7a4_27 : decode cJ6_bitCount_0f7a4 27 = .ok (.iushr, 1) := by decide +kernel
theorem dJ6_bitCount_0f7a4_28 : decode cJ6_bitCount_0f7a4 28 = .ok (.iadd, 1) := by decide +kernel
theorem dJ6_bitCount_0f7a4_29 : decode cJ6_bitCount_0f7a4 29 = .ok (.ldc_w 267, 3) := by decide +kernel
theorem dJ6_bitCount_0f7a4_32 : decode cJ6_bitCount_0f7a4 32 = .ok (.iand, 1) := by decide +kernel
theorem dJ6_bitCount_0f7a4_33 : decode cJ6_bitCount_0f7a4 33 = .ok (.istore_n 0, 1) := by decide +kernel
theorem dJ6_bitCount_0f7a4_34 : decode cJ6_bitCount_0f7a4 34 = .ok (.iload_n 0, 1) := by decide +kernel
theorem dJ6_bitCount_0f7a4_35 : decode cJ6_bitCount_0f7a4 35 = .ok (.iload_n 0, 1) := by decide +kernel
theorem dJ6_bitCount_0f7a4_36 : decode cJ6_bitCount_0f7a4 36 = .ok (.bipush 8, 2) := by decide +kernel
theorem dJ6_bitCount_0f7a4_38 : decode cJ6_bitCount_0f7a4 38 = .ok (.iushr, 1) := by decide +kernel
theorem dJ6_bitCount_0f7a4_39 : decode cJ6_bitCount_0f7a4 39 = .ok (.iadd, 1) := by decide +kernel
theorem dJ6_bitCount_0f7a4_40 : decode cJ6_bitCount_0f7a4 40 = .ok (.istore_n 0, 1) := by decide +kernel
theorem dJ6_bitCount_0f7a4_41 : decode cJ6_bitCount_0f7a4 41 = .ok (.iload_n 0, 1) := by decide +kernel
theorem dJ6_bitCount_0f7a4_42 : decode cJ6_bitCount_0f7a4 42 = .ok (.iload_n 0, 1) := by decide +kernel
theorem dJ6_bitCount_0f7a4_43 : decode cJ6_bitCount_0f7a4 43 = .ok (.bipush 16, 2) := by decide +kernel
theorem dJ6_bitCount_0f7a4_45 : decode cJ6_bitCount_0f7a4 45 = .ok (.iushr, 1) := by decide +kernel
theorem dJ6_bitCount_0f7a4_46 : decode cJ6_bitCount_0f7a4 46 = .ok (.iadd, 1) := by decide +kernel
theorem dJ6_bitCount_0f7a4_47 : decode cJ6_bitCount_0f7a4 47 = .ok (.istore_n 0, 1) := by decide +kernel
theorem dJ6_bitCount_0f7a4_48 : decode cJ6_bitCount_0f7a4 48 = .ok (.iload_n 0, 1) := by decide +kernel
theorem dJ6_bitCount_0f7a4_49 : decode cJ6_bitCount_0f7a4 49 = .ok (.bipush 63, 2) := by decide +kernel
theorem dJ6_bitCount_0f7a4_51 : decode cJ6_bitCount_0f7a4 51 = .ok (.iand, 1) := by decide +kernel
theorem dJ6_bitCount_0f7a4_52 : decode cJ6_bitCount_0f7a4 52 = .ok (.ireturn, 1) := by decide +kernel
