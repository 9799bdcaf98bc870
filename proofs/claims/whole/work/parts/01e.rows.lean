theorem dX7_placing_73 : decode cX7_placing 73 = .ok (.getfield 54, 3) := by decide +kernel
theorem dX7_placing_76 : decode cX7_placing 76 = .ok (.getfield 188, 3) := by decide +kernel
theorem dX7_placing_79 : decode cX7_placing 79 = .ok (.ireturn, 1) := by decide +kernel
theorem dX7_placing_80 : decode cX7_placing 80 = .ok (.aload_n 0, 1) := by decide +kernel
theorem dX7_placing_81 : decode cX7_placing 81 = .ok (.getfield 54, 3) := by decide +kernel
theorem dX7_placing_84 : decode cX7_placing 84 = .ok (.getfield 191, 3) := by decide +kernel
theorem dX7_placing_87 : decode cX7_placing 87 = .ok (.ireturn, 1) := by decide +kernel
theorem dX7_placing_88 : decode cX7_placing 88 = .ok (.aload_n 0, 1) := by decide +kernel
theorem dX7_placing_89 : decode cX7_placing 89 = .ok (.getfield 54, 3) := by decide +kernel
theorem dX7_placing_92 : decode cX7_placing 92 = .ok (.getfield 194, 3) := by decide +kernel
theorem dX7_placing_95 : decode cX7_placing 95 = .ok (.ireturn, 1) := by decide +kernel
set_option maxRecDepth 20000 in
theorem ggX7_trees_X7_isParish : GoodIn wsX7_trees wsX7_isParish := goodIn_r _ [6] (by decide +kernel) (by decide +kernel)
set_option maxRecDepth 20000 in
theorem gX7_trees_X7_isParish : GoodIn wsX7_trees (va_wsS RX7 175 yX7_isParish wsX7_isParish) := goodIn_app (goodIn_of _ (by decide +kernel)) ggX7_trees_X7_isParish
set_option maxRecDepth 20000 in
theorem ggX7_trees_X1_hasWind : GoodIn wsX7_trees wsX1_hasWind := goodIn_r _ [10, 11, 70, 71, 72, 73] (by decide +kernel) (by decide +kernel)
set_option maxRecDepth 20000 in
theorem gX7_trees_X1_hasWind_n138 : GoodIn wsX7_trees (wsX1_hasWind) := ggX7_trees_X1_hasWind
set_option maxRecDepth 20000 in
theorem ggX7_trees_X2_treeCells : GoodIn wsX7_trees wsX2_treeCells := goodIn_r _ [15, 16, 59, 60, 61, 62, 63, 64, 65, 66, 67, 68, 69] (by decide +kernel) (by decide +kernel)
set_option maxRecDepth 20000 in
theorem gX7_trees_X2_treeCells_n197 : GoodIn wsX7_trees (wsX2_treeCells) := ggX7_trees_X2_treeCells
set_option maxRecDepth 20000 in
theorem ggX7_trees_J6_bitCount_0f7a4 : GoodIn wsX7_trees wsJ6_bitCount_0f7a4 := goodIn_r _ [20, 21, 22, 23] (by decide +kernel) (by decide +kernel)
set_option maxRecDepth 20000 in
theorem gX7_trees_J6_bitCount_0f7a4 : GoodIn wsX7_trees (va_wsS RX7 200 yJ6_bitCount_0f7a4 wsJ6_bitCount_0f7a4) := goodIn_app (goodIn_of _ (by decide +kernel)) ggX7_trees_J6_bitCount_0f7a4
set_option maxRecDepth 20000 in
theorem ggX7_trees_X1_brookUnder : GoodIn wsX7_trees wsX1_brookUnder := goodIn_r _ [26, 27, 28, 29, 8, 30, 31, 32, 33, 5, 34, 35, 13, 36, 37, 38, 39, 16, 40, 41, 42, 43, 44, 45, 46, 47, 48, 49, 70, 71, 72, 73, 59, 60, 61, 62, 63, 64, 65, 66, 67, 68, 69] (by decide +kernel) (by decide +kernel)
set_option maxRecDepth 20000 in
theorem gX7_trees_X1_brookUnder_n172 : GoodIn wsX7_trees (wsX1_brookUnder) := ggX7_trees_X1_brookUnder
theorem dX7_trees_0 : decode cX7_trees 0 = .ok (.iload_n 1, 1) := by decide +kernel
theorem dX7_trees_1 : decode cX7_trees 1 = .ok (.invokestatic 175, 3) := by decide +kernel
theorem dX7_trees_4 : decode cX7_trees 4 = .ok (.ifCond .ne 6, 3) := by decide +kernel
theorem dX7_trees_7 : decode cX7_trees 7 = .ok (.bipush (-2), 2) := by decide +kernel
theorem dX7_trees_9 : decode cX7_trees 9 = .ok (.ireturn, 1) := by decide +kernel
theorem dX7_trees_10 : decode cX7_trees 10 = .ok (.aload_n 0, 1) := by decide +kernel
theorem dX7_trees_11 : decode cX7_trees 11 = .ok (.getfield 26, 3) := by decide +kernel
theorem dX7_trees_14 : decode cX7_trees 14 = .ok (.iload_n 2, 1) := by decide +kernel
theorem dX7_trees_15 : decode cX7_trees 15 = .ok (.invokevirtual 138, 3) := by decide +kernel
theorem dX7_trees_18 : decode cX7_trees 18 = .ok (.ifCond .ne 5, 3) := by decide +kernel
theorem dX7_trees_21 : decode cX7_trees 21 = .ok (.iconst (-1), 1) := by decide +kernel
theorem dX7_trees_22 : decode cX7_trees 22 = .ok (.ireturn, 1) := by decide +kernel
theorem dX7_trees_23 : decode cX7_trees 23 = .ok (.aload_n 0, 1) := by decide +kernel
theorem dX7_trees_24 : decode cX7_trees 24 = .ok (.getfield 19, 3) := by decide +kernel
theorem dX7_trees_27 : decode cX7_trees 27 = .ok (.invokevirtual 197, 3) := by decide +kernel
theorem dX7_trees_30 : decode cX7_trees 30 = .ok (.istore_n 3, 1) := by decide +kernel
theorem dX7_trees_31 : decode cX7_trees 31 = .ok (.bipush (-9), 2) := by decide +kernel
theorem dX7_trees_33 : decode cX7_trees 33 = .ok (.istore 4, 2) := by decide +kernel
theorem dX7_trees_35 : decode cX7_trees 35 = .ok (.iconst 0, 1) := by decide +kernel
theorem dX7_trees_36 : decode cX7_trees 36 = .ok (.istore 5, 2) := by decide +kernel
theorem dX7_trees_38 : decode cX7_trees 38 = .ok (.iload 5, 2) := by decide +kernel
theorem dX7_trees_40 : decode cX7_trees 40 = .ok (.sipush 1023, 3) := by decide +kernel
theorem dX7_trees_43 : decode cX7_trees 43 = .ok (.if_icmp .gt 79, 3) := by decide +kernel
theorem dX7_trees_46 : decode cX7_trees 46 = .ok (.iload 4, 2) := by decide +kernel
theorem dX7_trees_48 : decode cX7_trees 48 = .ok (.bipush (-9), 2) := by decide +kernel
theorem dX7_trees_50 : decode cX7_trees 50 = .ok (.if_icmp .eq 16, 3) := by decide +kernel
theorem dX7_trees_53 : decode cX7_trees 53 = .ok (.iload 5, 2) := by decide +kernel
theorem dX7_trees_55 : decode cX7_trees 55 = .ok (.invokestatic 200, 3) := by decide +kernel
theorem dX7_trees_58 : decode cX7_trees 58 = .ok (.iload 4, 2) := by decide +kernel
theorem dX7_trees_60 : decode cX7_trees 60 = .ok (.invokestatic 200, 3) := by decide +kernel
theorem dX7_trees_63 : decode cX7_trees 63 = .ok (.if_icmp .ge 7, 3) := by decide +kernel
theorem dX7_trees_66 : decode cX7_trees 66 = .ok (.iconst 1, 1) := by decide +kernel
theorem dX7_trees_67 : decode cX7_trees 67 = .ok (.goto 4, 3) := by decide +kernel
theorem dX7_trees_70 : decode cX7_trees 70 = .ok (.iconst 0, 1) := by decide +kernel
theorem dX7_trees_71 : decode cX7_trees 71 = .ok (.istore 6, 2) := by decide +kernel
theorem dX7_trees_73 : decode cX7_trees 73 = .ok (.iload 6, 2) := by decide +kernel
theorem dX7_trees_75 : decode cX7_trees 75 = .ok (.ifCond .eq 41, 3) := by decide +kernel
theorem dX7_trees_78 : decode cX7_trees 78 = .ok (.iload 5, 2) := by decide +kernel
theorem dX7_trees_80 : decode cX7_trees 80 = .ok (.iload_n 3, 1) := by decide +kernel
theorem dX7_trees_81 : decode cX7_trees 81 = .ok (.iconst (-1), 1) := by decide +kernel
theorem dX7_trees_82 : decode cX7_trees 82 = .ok (.ixor, 1) := by decide +kernel
theorem dX7_trees_83 : decode cX7_trees 83 = .ok (.iand, 1) := by decide +kernel
theorem dX7_trees_84 : decode cX7_trees 84 = .ok (.ifCond .ne 32, 3) := by decide +kernel
theorem dX7_trees_87 : decode cX7_trees 87 = .ok (.aload_n 0, 1) := by decide +kernel
theorem dX7_trees_88 : decode cX7_trees 88 = .ok (.getfield 26, 3) := by decide +kernel
theorem dX7_trees_91 : decode cX7_trees 91 = .ok (.aload_n 0, 1) := by decide +kernel
theorem dX7_trees_92 : decode cX7_trees 92 = .ok (.getfield 19, 3) := by decide +kernel
theorem dX7_trees_95 : decode cX7_trees 95 = .ok (.iload_n 2, 1) := by decide +kernel
theorem dX7_trees_96 : decode cX7_trees 96 = .ok (.aload_n 0, 1) := by decide +kernel
theorem dX7_trees_97 : decode cX7_trees 97 = .ok (.getfield 19, 3) := by decide +kernel
theorem dX7_trees_100 : decode cX7_trees 100 = .ok (.getfield 135, 3) := by decide +kernel
theorem dX7_trees_103 : decode cX7_trees 103 = .ok (.iload 5, 2) := by decide +kernel
theorem dX7_trees_105 : decode cX7_trees 105 = .ok (.invokevirtual 172, 3) := by decide +kernel
theorem dX7_trees_108 : decode cX7_trees 108 = .ok (.iload_n 1, 1) := by decide +kernel
theorem dX7_trees_109 : decode cX7_trees 109 = .ok (.if_icmp .ne 7, 3) := by decide +kernel
theorem dX7_trees_112 : decode cX7_trees 112 = .ok (.iload 5, 2) := by decide +kernel
theorem dX7_trees_114 : decode cX7_trees 114 = .ok (.istore 4, 2) := by decide +kernel
theorem dX7_trees_116 : decode cX7_trees 116 = .ok (.iinc 5 1, 3) := by decide +kernel
theorem dX7_trees_119 : decode cX7_trees 119 = .ok (.goto (-81), 3) := by decide +kernel
theorem dX7_trees_122 : decode cX7_trees 122 = .ok (.iload 4, 2) := by decide +kernel
theorem dX7_trees_124 : decode cX7_trees 124 = .ok (.ireturn, 1) := by decide +kernel
set_option maxRecDepth 20000 in
theorem ggX7_decides_X1_hasWind : GoodIn wsX7_decides wsX1_hasWind := goodIn_r _ [6, 7, 53, 54, 55, 56] (by decide +kernel) (by decide +kernel)
set_option maxRecDepth 20000 in
theorem gX7_decides_X1_hasWind_n138 : GoodIn wsX7_decides (wsX1_hasWind) := ggX7_decides_X1_hasWind
set_option maxRecDepth 20000 in
theorem ggX7_decides_X1_waysBehind : GoodIn wsX7_decides wsX1_waysBehind := goodIn_r _ [10, 11, 12, 13, 14, 15, 16, 17, 18, 19, 20, 21, 22, 23, 24, 25, 26, 53, 54, 55, 56, 42, 43, 44, 45, 46, 47, 48, 49, 50, 51, 52] (by decide +kernel) (by decide +kernel)
set_option maxRecDepth 20000 in
theorem gX7_decides_X1_waysBehind_n150 : GoodIn wsX7_decides (wsX1_waysBehind) := ggX7_decides_X1_waysBehind
set_option maxRecDepth 20000 in
theorem ggX7_decides_X2_brookBy : GoodIn wsX7_decides wsX2_brookBy := goodIn_r _ [29, 30, 20, 31, 32, 25, 14, 26, 13, 15, 42, 43, 44, 45, 46, 47, 48, 49, 50, 51, 52] (by decide +kernel) (by decide +kernel)
set_option maxRecDepth 20000 in
theorem gX7_decides_X2_brookBy_n205 : GoodIn wsX7_decides (wsX2_brookBy) := ggX7_decides_X2_brookBy
theorem dX7_decides_0 : decode cX7_decides 0 = .ok (.aload_n 0, 1) := by decide +kernel
theorem dX7_decides_1 : decode cX7_decides 1 = .ok (.getfield 26, 3) := by decide +kernel
theorem dX7_decides_4 : decode cX7_decides 4 = .ok (.iload_n 1, 1) := by decide +kernel
theorem dX7_decides_5 : decode cX7_decides 5 = .ok (.invokevirtual 138, 3) := by decide +kernel
theorem dX7_decides_8 : decode cX7_decides 8 = .ok (.ifCond .ne 5, 3) := by decide +kernel
theorem dX7_decides_11 : decode cX7_decides 11 = .ok (.iconst (-1), 1) := by decide +kernel
theorem dX7_decides_12 : decode cX7_decides 12 = .ok (.ireturn, 1) := by decide +kernel
theorem dX7_decides_13 : decode cX7_decides 13 = .ok (.aload_n 0, 1) := by decide +kernel
theorem dX7_decides_14 : decode cX7_decides 14 = .ok (.getfield 26, 3) := by decide +kernel
theorem dX7_decides_17 : decode cX7_decides 17 = .ok (.aload_n 0, 1) := by decide +kernel
theorem dX7_decides_18 : decode cX7_decides 18 = .ok (.getfield 19, 3) := by decide +kernel
theorem dX7_decides_21 : decode cX7_decides 21 = .ok (.iload_n 1, 1) := by decide +kernel
theorem dX7_decides_22 : decode cX7_decides 22 = .ok (.aload_n 0, 1) := by decide +kernel
theorem dX7_decides_23 : decode cX7_decides 23 = .ok (.getfield 19, 3) := by decide +kernel
theorem dX7_decides_26 : decode cX7_decides 26 = .ok (.getfield 135, 3) := by decide +kernel
theorem dX7_decides_29 : decode cX7_decides 29 = .ok (.iconst 0, 1) := by decide +kernel
theorem dX7_decides_30 : decode cX7_decides 30 = .ok (.invokevirtual 150, 3) := by decide +kernel
theorem dX7_decides_33 : decode cX7_decides 33 = .ok (.istore_n 2, 1) := by decide +kernel
theorem dX7_decides_34 : decode cX7_decides 34 = .ok (.aload_n 0, 1) := by decide +kernel
theorem dX7_decides_35 : decode cX7_decides 35 = .ok (.getfield 19, 3) := by decide +kernel
theorem dX7_decides_38 : decode cX7_decides 38 = .ok (.iload_n 2, 1) := by decide +kernel
theorem dX7_decides_39 : decode cX7_decides 39 = .ok (.invokevirtual 205, 3) := by decide +kernel
theorem dX7_decides_42 : decode cX7_decides 42 = .ok (.istore_n 3, 1) := by decide +kernel
theorem dX7_decides_43 : decode cX7_decides 43 = .ok (.iconst 0, 1) := by decide +kernel
theorem dX7_decides_44 : decode cX7_decides 44 = .ok (.istore 4, 2) := by decide +kernel
theorem dX7_decides_46 : decode cX7_decides 46 = .ok (.iconst 0, 1) := by decide +kernel
theorem dX7_decides_47 : decode cX7_decides 47 = .ok (.istore 5, 2) := by decide +kernel
theorem dX7_decides_49 : decode cX7_decides 49 = .ok (.iload 5, 2) := by decide +kernel
theorem dX7_decides_51 : decode cX7_decides 51 = .ok (.aload_n 0, 1) := by decide +kernel
theorem dX7_decides_52 : decode cX7_decides 52 = .ok (.getfield 19, 3) := by decide +kernel
theorem dX7_decides_55 : decode cX7_decides 55 = .ok (.getfield 92, 3) := by decide +kernel
theorem dX7_decides_58 : decode cX7_decides 58 = .ok (.if_icmp .ge 35, 3) := by decide +kernel
theorem dX7_decides_61 : decode cX7_decides 61 = .ok (.aload_n 0, 1) := by decide +kernel
theorem dX7_decides_62 : decode cX7_decides 62 = .ok (.getfield 19, 3) := by decide +kernel
theorem dX7_decides_65 : decode cX7_decides 65 = .ok (.iload_n 2, 1) := by decide +kernel
theorem dX7_decides_66 : decode cX7_decides 66 = .ok (.iconst 1, 1) := by decide +kernel
theorem dX7_decides_67 : decode cX7_decides 67 = .ok (.iload 5, 2) := by decide +kernel
theorem dX7_decides_69 : decode cX7_decides 69 = .ok (.ishl, 1) := by decide +kernel
theorem dX7_decides_70 : decode cX7_decides 70 = .ok (.ixor, 1) := by decide +kernel
theorem dX7_decides_71 : decode cX7_decides 71 = .ok (.invokevirtual 205, 3) := by decide +kernel
theorem dX7_decides_74 : decode cX7_decides 74 = .ok (.iload_n 3, 1) := by decide +kernel
theorem dX7_decides_75 : decode cX7_decides 75 = .ok (.if_icmp .eq 12, 3) := by decide +kernel
theorem dX7_decides_78 : decode cX7_decides 78 = .ok (.iload 4, 2) := by decide +kernel
theorem dX7_decides_80 : decode cX7_decides 80 = .ok (.iconst 1, 1) := by decide +kernel
theorem dX7_decides_81 : decode cX7_decides 81 = .ok (.iload 5, 2) := by decide +kernel
theorem dX7_decides_83 : decode cX7_decides 83 = .ok (.ishl, 1) := by decide +kernel
theorem dX7_decides_84 : decode cX7_decides 84 = .ok (.ior, 1) := by decide +kernel
theorem dX7_decides_85 : decode cX7_decides 85 = .ok (.istore 4, 2) := by decide +kernel
theorem dX7_decides_87 : decode cX7_decides 87 = .ok (.iinc 5 1, 3) := by decide +kernel
theorem dX7_decides_90 : decode cX7_decides 90 = .ok (.goto (-41), 3) := by decide +kernel
theorem dX7_decides_93 : decode cX7_decides 93 = .ok (.iload 4, 2) := by decide +kernel
theorem dX7_decides_95 : decode cX7_decides 95 = .ok (.ireturn, 1) := by decide +kernel
set_option maxRecDepth 20000 in
theorem ggX7_power_X2_hasCock : GoodIn wsX7_power wsX2_hasCock := goodIn_r _ [5, 6, 30, 31, 32, 33, 34, 35, 36, 37, 38, 39, 40] (by decide +kernel) (by decide +kernel)
set_option maxRecDepth 20000 in
theorem gX7_power_X2_hasCock_n110 : GoodIn wsX7_power (wsX2_hasCock) := ggX7_power_X2_hasCock
set_option maxRecDepth 20000 in
theorem ggX7_power_X2_everyCock : GoodIn wsX7_power wsX2_everyCock := goodIn_r _ [9, 6, 30, 31, 32, 33, 34, 35, 36, 37, 38, 39, 40] (by decide +kernel) (by decide +kernel)
set_option maxRecDepth 20000 in
theorem gX7_power_X2_everyCock_n208 : GoodIn wsX7_power (wsX2_everyCock) := ggX7_power_X2_everyCock
set_option maxRecDepth 20000 in
theorem ggX7_power_X2_brookBy : GoodIn wsX7_power wsX2_brookBy := goodIn_r _ [12, 13, 6, 14, 15, 16, 17, 18, 19, 20, 30, 31, 32, 33, 34, 35, 36, 37, 38, 39, 40] (by decide +kernel) (by decide +kernel)
set_option maxRecDepth 20000 in
theorem gX7_power_X2_brookBy_n205 : GoodIn wsX7_power (wsX2_brookBy) := ggX7_power_X2_brookBy
theorem dX7_power_0 : decode cX7_power 0 = .ok (.aload_n 0, 1) := by decide +kernel
theorem dX7_power_1 : decode cX7_power 1 = .ok (.getfield 19, 3) := by decide +kernel
theorem dX7_power_4 : decode cX7_power 4 = .ok (.iload_n 1, 1) := by decide +kernel
theorem dX7_power_5 : decode cX7_power 5 = .ok (.invokevirtual 110, 3) := by decide +kernel
theorem dX7_power_8 : decode cX7_power 8 = .ok (.ifCond .ne 5, 3) := by decide +kernel
theorem dX7_power_11 : decode cX7_power 11 = .ok (.iconst (-1), 1) := by decide +kernel
theorem dX7_power_12 : decode cX7_power 12 = .ok (.ireturn, 1) := by decide +kernel
theorem dX7_power_13 : decode cX7_power 13 = .ok (.iconst 1, 1) := by decide +kernel
theorem dX7_power_14 : decode cX7_power 14 = .ok (.iload_n 1, 1) := by decide +kernel
theorem dX7_power_15 : decode cX7_power 15 = .ok (.ishl, 1) := by decide +kernel
theorem dX7_power_16 : decode cX7_power 16 = .ok (.istore_n 2, 1) := by decide +kernel
theorem dX7_power_17 : decode cX7_power 17 = .ok (.aload_n 0, 1) := by decide +kernel
theorem dX7_power_18 : decode cX7_power 18 = .ok (.getfield 19, 3) := by decide +kernel
theorem dX7_power_21 : decode cX7_power 21 = .ok (.invokevirtual 208, 3) := by decide +kernel
theorem dX7_power_24 : decode cX7_power 24 = .ok (.istore_n 3, 1) := by decide +kernel
theorem dX7_power_25 : decode cX7_power 25 = .ok (.iconst 0, 1) := by decide +kernel
theorem dX7_power_26 : decode cX7_power 26 = .ok (.istore 4, 2) := by decide +kernel
theorem dX7_power_28 : decode cX7_power 28 = .ok (.iconst 0, 1) := by decide +kernel
theorem dX7_power_29 : decode cX7_power 29 = .ok (.istore 5, 2) := by decide +kernel
theorem dX7_power_31 : decode cX7_power 31 = .ok (.iload 5, 2) := by decide +kernel
theorem dX7_power_33 : decode cX7_power 33 = .ok (.iload_n 3, 1) := by decide +kernel
theorem dX7_power_34 : decode cX7_power 34 = .ok (.if_icmp .gt 42, 3) := by decide +kernel
theorem dX7_power_37 : decode cX7_power 37 = .ok (.iload 5, 2) := by decide +kernel
theorem dX7_power_39 : decode cX7_power 39 = .ok (.iload_n 2, 1) := by decide +kernel
theorem dX7_power_40 : decode cX7_power 40 = .ok (.iand, 1) := by decide +kernel
theorem dX7_power_41 : decode cX7_power 41 = .ok (.ifCond .ne 29, 3) := by decide +kernel
theorem dX7_power_44 : decode cX7_power 44 = .ok (.aload_n 0, 1) := by decide +kernel
theorem dX7_power_45 : decode cX7_power 45 = .ok (.getfield 19, 3) := by decide +kernel
theorem dX7_power_48 : decode cX7_power 48 = .ok (.iload 5, 2) := by decide +kernel
theorem dX7_power_50 : decode cX7_power 50 = .ok (.invokevirtual 205, 3) := by decide +kernel
theorem dX7_power_53 : decode cX7_power 53 = .ok (.aload_n 0, 1) := by decide +kernel
theorem dX7_power_54 : decode cX7_power 54 = .ok (.getfield 19, 3) := by decide +kernel
theorem dX7_power_57 : decode cX7_power 57 = .ok (.iload 5, 2) := by decide +kernel
theorem dX7_power_59 : decode cX7_power 59 = .ok (.iload_n 2, 1) := by decide +kernel
theorem dX7_power_60 : decode cX7_power 60 = .ok (.ior, 1) := by decide +kernel
theorem dX7_power_61 : decode cX7_power 61 = .ok (.invokevirtual 205, 3) := by decide +kernel
theorem dX7_power_64 : decode cX7_power 64 = .ok (.if_icmp .eq 6, 3) := by decide +kernel
theorem dX7_power_67 : decode cX7_power 67 = .ok (.iinc 4 1, 3) := by decide +kernel
theorem dX7_power_70 : decode cX7_power 70 = .ok (.iinc 5 1, 3) := by decide +kernel
theorem dX7_power_73 : decode cX7_power 73 = .ok (.goto (-42), 3) := by decide +kernel
theorem dX7_power_76 : decode cX7_power 76 = .ok (.iload 4, 2) := by decide +kernel
theorem dX7_power_78 : decode cX7_power 78 = .ok (.ireturn, 1) := by decide +kernel
set_option maxRecDepth 20000 in
theorem ggX7_judge_X7_cutFigures : GoodIn wsX7_judge wsX7_cutFigures := goodIn_r _ [7] (by decide +kernel) (by decide +kernel)
set_option maxRecDepth 20000 in
theorem gX7_judge_X7_cutFigures : GoodIn wsX7_judge (va_wsS RX7 211 yX7_cutFigures wsX7_cutFigures) := goodIn_app (goodIn_of _ (by decide +kernel)) ggX7_judge_X7_cutFigures
set_option maxRecDepth 20000 in
theorem ggX7_judge_X2_copyFrom : GoodIn wsX7_judge wsX2_copyFrom := goodIn_r _ [11, 12, 13, 14, 15, 16, 17, 18, 19, 20, 21, 22, 23, 6, 24, 58, 59, 60, 61, 62, 63, 64, 65, 66, 67, 68] (by decide +kernel) (by decide +kernel)
set_option maxRecDepth 20000 in
theorem gX7_judge_X2_copyFrom_n80 : GoodIn wsX7_judge (wsX2_copyFrom) := ggX7_judge_X2_copyFrom
set_option maxRecDepth 20000 in
theorem ggX7_judge_X1_hasWind : GoodIn wsX7_judge wsX1_hasWind := goodIn_r _ [28, 29, 69, 70, 71, 72] (by decide +kernel) (by decide +kernel)
set_option maxRecDepth 20000 in
theorem gX7_judge_X1_hasWind_n138 : GoodIn wsX7_judge (wsX1_hasWind) := ggX7_judge_X1_hasWind
set_option maxRecDepth 20000 in
theorem ggX7_judge_X1_blowOver : GoodIn wsX7_judge wsX1_blowOver := goodIn_r _ [32, 33, 34, 35, 26, 36, 37, 38, 39, 6, 40, 41, 9, 42, 43, 17, 13, 12, 15, 14, 44, 45, 46, 47, 48, 18, 16, 21, 58, 59, 60, 61, 62, 63, 64, 65, 66, 67, 68, 69, 70, 71, 72] (by decide +kernel) (by decide +kernel)
set_option maxRecDepth 20000 in
theorem gX7_judge_X1_blowOver_n157 : GoodIn wsX7_judge (wsX1_blowOver) := ggX7_judge_X1_blowOver
theorem dX7_judge_0 : decode cX7_judge 0 = .ok (.iload_n 1, 1) := by decide +kernel
theorem dX7_judge_1 : decode cX7_judge 1 = .ok (.iconst 1, 1) := by decide +kernel
theorem dX7_judge_2 : decode cX7_judge 2 = .ok (.if_icmp .lt 21, 3) := by decide +kernel
theorem dX7_judge_5 : decode cX7_judge 5 = .ok (.iload_n 1, 1) := by decide +kernel
theorem dX7_judge_6 : decode cX7_judge 6 = .ok (.bipush 6, 2) := by decide +kernel
theorem dX7_judge_8 : decode cX7_judge 8 = .ok (.if_icmp .gt 15, 3) := by decide +kernel
theorem dX7_judge_11 : decode cX7_judge 11 = .ok (.iload_n 2, 1) := by decide +kernel
theorem dX7_judge_12 : decode cX7_judge 12 = .ok (.ifCond .lt 11, 3) := by decide +kernel
theorem dX7_judge_15 : decode cX7_judge 15 = .ok (.iload_n 2, 1) := by decide +kernel
theorem dX7_judge_16 : decode cX7_judge 16 = .ok (.iload_n 1, 1) := by decide +kernel
theorem dX7_judge_17 : decode cX7_judge 17 = .ok (.invokestatic 211, 3) := by decide +kernel
theorem dX7_judge_20 : decode cX7_judge 20 = .ok (.ifCond .le 6, 3) := by decide +kernel
theorem dX7_judge_23 : decode cX7_judge 23 = .ok (.bipush (-2), 2) := by decide +kernel
theorem dX7_judge_25 : decode cX7_judge 25 = .ok (.ireturn, 1) := by decide +kernel
theorem dX7_judge_26 : decode cX7_judge 26 = .ok (.aload_n 0, 1) := by decide +kernel
theorem dX7_judge_27 : decode cX7_judge 27 = .ok (.getfield 58, 3) := by decide +kernel
theorem dX7_judge_30 : decode cX7_judge 30 = .ok (.aload_n 0, 1) := by decide +kernel
theorem dX7_judge_31 : decode cX7_judge 31 = .ok (.getfield 19, 3) := by decide +kernel
theorem dX7_judge_34 : decode cX7_judge 34 = .ok (.invokevirtual 80, 3) := by decide +kernel
theorem dX7_judge_37 : decode cX7_judge 37 = .ok (.iconst 0, 1) := by decide +kernel
theorem dX7_judge_38 : decode cX7_judge 38 = .ok (.istore_n 3, 1) := by decide +kernel
theorem dX7_judge_39 : decode cX7_judge 39 = .ok (.iload_n 3, 1) := by decide +kernel
theorem dX7_judge_40 : decode cX7_judge 40 = .ok (.iload_n 1, 1) := by decide +kernel
theorem dX7_judge_41 : decode cX7_judge 41 = .ok (.if_icmp .ge 53, 3) := by decide +kernel
theorem dX7_judge_44 : decode cX7_judge 44 = .ok (.iload_n 2, 1) := by decide +kernel
theorem dX7_judge_45 : decode cX7_judge 45 = .ok (.iload_n 1, 1) := by decide +kernel
theorem dX7_judge_46 : decode cX7_judge 46 = .ok (.iconst 1, 1) := by decide +kernel
theorem dX7_judge_47 : decode cX7_judge 47 = .ok (.isub, 1) := by decide +kernel
theorem dX7_judge_48 : decode cX7_judge 48 = .ok (.iload_n 3, 1) := by decide +kernel
theorem dX7_judge_49 : decode cX7_judge 49 = .ok (.isub, 1) := by decide +kernel
theorem dX7_judge_50 : decode cX7_judge 50 = .ok (.invokestatic 211, 3) := by decide +kernel
theorem dX7_judge_53 : decode cX7_judge 53 = .ok (.bipush 10, 2) := by decide +kernel
theorem dX7_judge_55 : decode cX7_judge 55 = .ok (.irem, 1) := by decide +kernel
theorem dX7_judge_56 : decode cX7_judge 56 = .ok (.istore 4, 2) := by decide +kernel
theorem dX7_judge_58 : decode cX7_judge 58 = .ok (.aload_n 0, 1) := by decide +kernel
theorem dX7_judge_59 : decode cX7_judge 59 = .ok (.getfield 26, 3) := by decide +kernel
theorem dX7_judge_62 : decode cX7_judge 62 = .ok (.iload 4, 2) := by decide +kernel
theorem dX7_judge_64 : decode cX7_judge 64 = .ok (.invokevirtual 138, 3) := by decide +kernel
theorem dX7_judge_67 : decode cX7_judge 67 = .ok (.ifCond .eq 19, 3) := by decide +kernel
theorem dX7_judge_70 : decode cX7_judge 70 = .ok (.aload_n 0, 1) := by decide +kernel
theorem dX7_judge_71 : decode cX7_judge 71 = .ok (.getfield 26, 3) := by decide +kernel
theorem dX7_judge_74 : decode cX7_judge 74 = .ok (.aload_n 0, 1) := by decide +kernel
theorem dX7_judge_75 : decode cX7_judge 75 = .ok (.getfield 58, 3) := by decide +kernel
theorem dX7_judge_78 : decode cX7_judge 78 = .ok (.iload 4, 2) := by decide +kernel
theorem dX7_judge_80 : decode cX7_judge 80 = .ok (.invokevirtual 157, 3) := by decide +kernel
theorem dX7_judge_83 : decode cX7_judge 83 = .ok (.ifCond .eq 5, 3) := by decide +kernel
theorem dX7_judge_86 : decode cX7_judge 86 = .ok (.iload_n 3, 1) := by decide +kernel
theorem dX7_judge_87 : decode cX7_judge 87 = .ok (.ireturn, 1) := by decide +kernel
theorem dX7_judge_88 : decode cX7_judge 88 = .ok (.iinc 3 1, 3) := by decide +kernel
theorem dX7_judge_91 : decode cX7_judge 91 = .ok (.goto (-52), 3) := by decide +kernel
theorem dX7_judge_94 : decode cX7_judge 94 = .ok (.bipush (-9), 2) := by decide +kernel
theorem dX7_judge_96 : decode cX7_judge 96 = .ok (.ireturn, 1) := by decide +kernel
set_option maxRecDepth 20000 in
theorem ggX7_see_X2_hasCock : GoodIn wsX7_see wsX2_hasCock := goodIn_r _ [6, 7, 27, 28, 29, 30, 31, 32, 33, 34, 35, 36, 37] (by decide +kernel) (by decide +kernel)
set_option maxRecDepth 20000 in
theorem gX7_see_X2_hasCock_n110 : GoodIn wsX7_see (wsX2_hasCock) := ggX7_see_X2_hasCock
set_option maxRecDepth 20000 in
theorem ggX7_see_X5_add : GoodIn wsX7_see wsX5_add := goodIn_r _ [11, 12, 13, 14, 15, 16, 17, 38, 39, 40] (by decide +kernel) (by decide +kernel)
set_option maxRecDepth 20000 in
theorem gX7_see_X5_add_n214 : GoodIn wsX7_see (wsX5_add) := ggX7_see_X5_add
theorem dX7_see_0 : decode cX7_see 0 = .ok (.aload_n 0, 1) := by decide +kernel
theorem dX7_see_1 : decode cX7_see 1 = .ok (.getfield 19, 3) := by decide +kernel
theorem dX7_see_4 : decode cX7_see 4 = .ok (.iload_n 1, 1) := by decide +kernel
theorem dX7_see_5 : decode cX7_see 5 = .ok (.invokevirtual 110, 3) := by decide +kernel
theorem dX7_see_8 : decode cX7_see 8 = .ok (.ifCond .ne 5, 3) := by decide +kernel
theorem dX7_see_11 : decode cX7_see 11 = .ok (.iconst (-1), 1) := by decide +kernel
theorem dX7_see_12 : decode cX7_see 12 = .ok (.ireturn, 1) := by decide +kernel
theorem dX7_see_13 : decode cX7_see 13 = .ok (.iload_n 2, 1) := by decide +kernel
theorem dX7_see_14 : decode cX7_see 14 = .ok (.ifCond .lt 8, 3) := by decide +kernel
theorem dX7_see_17 : decode cX7_see 17 = .ok (.iload_n 2, 1) := by decide +kernel
theorem dX7_see_18 : decode cX7_see 18 = .ok (.iconst 1, 1) := by decide +kernel
theorem dX7_see_19 : decode cX7_see 19 = .ok (.if_icmp .le 6, 3) := by decide +kernel
theorem dX7_see_22 : decode cX7_see 22 = .ok (.bipush (-2), 2) := by decide +kernel
theorem dX7_see_24 : decode cX7_see 24 = .ok (.ireturn, 1) := by decide +kernel
theorem dX7_see_25 : decode cX7_see 25 = .ok (.aload_n 0, 1) := by decide +kernel
theorem dX7_see_26 : decode cX7_see 26 = .ok (.getfield 40, 3) := by decide +kernel
theorem dX7_see_29 : decode cX7_see 29 = .ok (.iload_n 1, 1) := by decide +kernel
theorem dX7_see_30 : decode cX7_see 30 = .ok (.iload_n 2, 1) := by decide +kernel
theorem dX7_see_31 : decode cX7_see 31 = .ok (.invokevirtual 214, 3) := by decide +kernel
theorem dX7_see_34 : decode cX7_see 34 = .ok (.ireturn, 1) := by decide +kernel
theorem dX7_unsee_0 : decode cX7_unsee 0 = .ok (.aload_n 0, 1) := by decide +kernel
theorem dX7_unsee_1 : decode cX7_unsee 1 = .ok (.getfield 40, 3) := by decide +kernel
theorem dX7_unsee_4 : decode cX7_unsee 4 = .ok (.getfield 217, 3) := by decide +kernel
theorem dX7_unsee_7 : decode cX7_unsee 7 = .ok (.istore_n 1, 1) := by decide +kernel
theorem dX7_unsee_8 : decode cX7_unsee 8 = .ok (.aload_n 0, 1) := by decide +kernel
theorem dX7_unsee_9 : decode cX7_unsee 9 = .ok (.getfield 40, 3) := by decide +kernel
theorem dX7_unsee_12 : decode cX7_unsee 12 = .ok (.iconst 0, 1) := by decide +kernel
theorem dX7_unsee_13 : decode cX7_unsee 13 = .ok (.putfield 217, 3) := by decide +kernel
theorem dX7_unsee_16 : decode cX7_unsee 16 = .ok (.iload_n 1, 1) := by decide +kernel
theorem dX7_unsee_17 : decode cX7_unsee 17 = .ok (.ireturn, 1) := by decide +kernel
set_option maxRecDepth 20000 in
theorem ggX7_strings_X1_hasWind : GoodIn wsX7_strings wsX1_hasWind := goodIn_r _ [7, 8, 50, 51, 52, 53] (by decide +kernel) (by decide +kernel)
set_option maxRecDepth 20000 in
theorem gX7_strings_X1_hasWind_n138 : GoodIn wsX7_strings (wsX1_hasWind) := ggX7_strings_X1_hasWind
set_option maxRecDepth 20000 in
theorem ggX7_strings_X2_everyCock : GoodIn wsX7_strings wsX2_everyCock := goodIn_r _ [12, 13, 54, 55, 56, 57, 58, 59, 60, 61, 62, 63, 64] (by decide +kernel) (by decide +kernel)
set_option maxRecDepth 20000 in
theorem gX7_strings_X2_everyCock_n208 : GoodIn wsX7_strings (wsX2_everyCock) := ggX7_strings_X2_everyCock
set_option maxRecDepth 20000 in
theorem ggX7_strings_X1_waysBehind : GoodIn wsX7_strings wsX1_waysBehind := goodIn_r _ [16, 17, 18, 19, 20, 21, 22, 10, 23, 24, 13, 25, 26, 27, 28, 29, 30, 50, 51, 52, 53, 54, 55, 56, 57, 58, 59, 60, 61, 62, 63, 64] (by decide +kernel) (by decide +kernel)
set_option maxRecDepth 20000 in
theorem gX7_strings_X1_waysBehind_n150 : GoodIn wsX7_strings (wsX1_waysBehind) := ggX7_strings_X1_waysBehind
set_option maxRecDepth 20000 in
theorem ggX7_strings_X5_agree : GoodIn wsX7_strings wsX5_agree := goodIn_r _ [34, 35, 36, 37, 19, 20, 21, 38, 10, 39, 40, 13, 29, 30, 65, 66, 67, 54, 55, 56, 57, 58, 59, 60, 61, 62, 63, 64] (by decide +kernel) (by decide +kernel)
set_option maxRecDepth 20000 in
theorem gX7_strings_X5_agree_n220 : GoodIn wsX7_strings (wsX5_agree) := ggX7_strings_X5_agree
theorem dX7_strings_0 : decode cX7_strings 0 = .ok (.aload_n 0, 1) := by decide +kernel
theorem dX7_strings_1 : decode cX7_strings 1 = .ok (.getfield 26, 3) := by decide +kernel
theorem dX7_strings_4 : decode cX7_strings 4 = .ok (.iload_n 1, 1) := by decide +kernel
theorem dX7_strings_5 : decode cX7_strings 5 = .ok (.invokevirtual 138, 3) := by decide +kernel
theorem dX7_strings_8 : decode cX7_strings 8 = .ok (.ifCond .ne 5, 3) := by decide +kernel
theorem dX7_strings_11 : decode cX7_strings 11 = .ok (.iconst (-1), 1) := by decide +kernel
theorem dX7_strings_12 : decode cX7_strings 12 = .ok (.ireturn, 1) := by decide +kernel
theorem dX7_strings_13 : decode cX7_strings 13 = .ok (.iload_n 2, 1) := by decide +kernel
theorem dX7_strings_14 : decode cX7_strings 14 = .ok (.ifCond .lt 8, 3) := by decide +kernel
theorem dX7_strings_17 : decode cX7_strings 17 = .ok (.iload_n 2, 1) := by decide +kernel
theorem dX7_strings_18 : decode cX7_strings 18 = .ok (.iconst 2, 1) := by decide +kernel
theorem dX7_strings_19 : decode cX7_strings 19 = .ok (.if_icmp .le 6, 3) := by decide +kernel
theorem dX7_strings_22 : decode cX7_strings 22 = .ok (.bipush (-2), 2) := by decide +kernel
theorem dX7_strings_24 : decode cX7_strings 24 = .ok (.ireturn, 1) := by decide +kernel
theorem dX7_strings_25 : decode cX7_strings 25 = .ok (.aload_n 0, 1) := by decide +kernel
theorem dX7_strings_26 : decode cX7_strings 26 = .ok (.getfield 19, 3) := by decide +kernel
theorem dX7_strings_29 : decode cX7_strings 29 = .ok (.invokevirtual 208, 3) := by decide +kernel
theorem dX7_strings_32 : decode cX7_strings 32 = .ok (.istore_n 3, 1) := by decide +kernel
theorem dX7_strings_33 : decode cX7_strings 33 = .ok (.iconst 0, 1) := by decide +kernel
theorem dX7_strings_34 : decode cX7_strings 34 = .ok (.istore 4, 2) := by decide +kernel
theorem dX7_strings_36 : decode cX7_strings 36 = .ok (.iload_n 3, 1) := by decide +kernel
theorem dX7_strings_37 : decode cX7_strings 37 = .ok (.istore 5, 2) := by decide +kernel
theorem dX7_strings_39 : decode cX7_strings 39 = .ok (.iconst 0, 1) := by decide +kernel
theorem dX7_strings_40 : decode cX7_strings 40 = .ok (.istore 6, 2) := by decide +kernel
theorem dX7_strings_42 : decode cX7_strings 42 = .ok (.iconst 0, 1) := by decide +kernel
theorem dX7_strings_43 : decode cX7_strings 43 = .ok (.istore 7, 2) := by decide +kernel
theorem dX7_strings_45 : decode cX7_strings 45 = .ok (.iload 7, 2) := by decide +kernel
theorem dX7_strings_47 : decode cX7_strings 47 = .ok (.iload_n 3, 1) := by decide +kernel
theorem dX7_strings_48 : decode cX7_strings 48 = .ok (.if_icmp .gt 55, 3) := by decide +kernel
theorem dX7_strings_51 : decode cX7_strings 51 = .ok (.aload_n 0, 1) := by decide +kernel
theorem dX7_strings_52 : decode cX7_strings 52 = .ok (.getfield 40, 3) := by decide +kernel
theorem dX7_strings_55 : decode cX7_strings 55 = .ok (.aload_n 0, 1) := by decide +kernel
theorem dX7_strings_56 : decode cX7_strings 56 = .ok (.getfield 19, 3) := by decide +kernel
theorem dX7_strings_59 : decode cX7_strings 59 = .ok (.aload_n 0, 1) := by decide +kernel
theorem dX7_strings_60 : decode cX7_strings 60 = .ok (.getfield 26, 3) := by decide +kernel
theorem dX7_strings_63 : decode cX7_strings 63 = .ok (.aload_n 0, 1) := by decide +kernel
theorem dX7_strings_64 : decode cX7_strings 64 = .ok (.getfield 19, 3) := by decide +kernel
theorem dX7_strings_67 : decode cX7_strings 67 = .ok (.iload_n 1, 1) := by decide +kernel
theorem dX7_strings_68 : decode cX7_strings 68 = .ok (.iload 7, 2) := by decide +kernel
theorem dX7_strings_70 : decode cX7_strings 70 = .ok (.iconst 0, 1) := by decide +kernel
theorem dX7_strings_71 : decode cX7_strings 71 = .ok (.invokevirtual 150, 3) := by decide +kernel
theorem dX7_strings_74 : decode cX7_strings 74 = .ok (.invokevirtual 220, 3) := by decide +kernel
theorem dX7_strings_77 : decode cX7_strings 77 = .ok (.ifCond .eq 20, 3) := by decide +kernel
theorem dX7_strings_80 : decode cX7_strings 80 = .ok (.iinc 4 1, 3) := by decide +kernel
theorem dX7_strings_83 : decode cX7_strings 83 = .ok (.iload 5, 2) := by decide +kernel
theorem dX7_strings_85 : decode cX7_strings 85 = .ok (.iload 7, 2) := by decide +kernel
theorem dX7_strings_87 : decode cX7_strings 87 = .ok (.iand, 1) := by decide +kernel
theorem dX7_strings_88 : decode cX7_strings 88 = .ok (.istore 5, 2) := by decide +kernel
theorem dX7_strings_90 : decode cX7_strings 90 = .ok (.iload 6, 2) := by decide +kernel
theorem dX7_strings_92 : decode cX7_strings 92 = .ok (.iload 7, 2) := by decide +kernel
theorem dX7_strings_94 : decode cX7_strings 94 = .ok (.ior, 1) := by decide +kernel
theorem dX7_strings_95 : decode cX7_strings 95 = .ok (.istore 6, 2) := by decide +kernel
theorem dX7_strings_97 : decode cX7_strings 97 = .ok (.iinc 7 1, 3) := by decide +kernel
theorem dX7_strings_100 : decode cX7_strings 100 = .ok (.goto (-55), 3) := by decide +kernel
theorem dX7_strings_103 : decode cX7_strings 103 = .ok (.iload_n 2, 1) := by decide +kernel
theorem dX7_strings_104 : decode cX7_strings 104 = .ok (.ifCond .ne 6, 3) := by decide +kernel
theorem dX7_strings_107 : decode cX7_strings 107 = .ok (.iload 4, 2) := by decide +kernel
theorem dX7_strings_109 : decode cX7_strings 109 = .ok (.ireturn, 1) := by decide +kernel
theorem dX7_strings_110 : decode cX7_strings 110 = .ok (.iload 4, 2) := by decide +kernel
theorem dX7_strings_112 : decode cX7_strings 112 = .ok (.ifCond .ne 6, 3) := by decide +kernel
theorem dX7_strings_115 : decode cX7_strings 115 = .ok (.bipush (-9), 2) := by decide +kernel
theorem dX7_strings_117 : decode cX7_strings 117 = .ok (.ireturn, 1) := by decide +kernel
theorem dX7_strings_118 : decode cX7_strings 118 = .ok (.iload_n 2, 1) := by decide +kernel
theorem dX7_strings_119 : decode cX7_strings 119 = .ok (.iconst 1, 1) := by decide +kernel
theorem dX7_strings_120 : decode cX7_strings 120 = .ok (.if_icmp .ne 8, 3) := by decide +kernel
theorem dX7_strings_123 : decode cX7_strings 123 = .ok (.iload 5, 2) := by decide +kernel
theorem dX7_strings_125 : decode cX7_strings 125 = .ok (.goto 9, 3) := by decide +kernel
theorem dX7_strings_128 : decode cX7_strings 128 = .ok (.iload_n 3, 1) := by decide +kernel
theorem dX7_strings_129 : decode cX7_strings 129 = .ok (.iload 6, 2) := by decide +kernel
theorem dX7_strings_131 : decode cX7_strings 131 = .ok (.iconst (-1), 1) := by decide +kernel
theorem dX7_strings_132 : decode cX7_strings 132 = .ok (.ixor, 1) := by decide +kernel
theorem dX7_strings_133 : decode cX7_strings 133 = .ok (.iand, 1) := by decide +kernel
theorem dX7_strings_134 : decode cX7_strings 134 = .ok (.ireturn, 1) := by decide +kernel
set_option maxRecDepth 20000 in
theorem ggX7_winds_X1_waysBehind : GoodIn wsX7_winds wsX1_waysBehind := goodIn_r _ [7, 8, 9, 10, 11, 12, 13, 14, 15, 16, 17, 18, 19, 20, 21, 22, 23, 43, 44, 45, 46, 47, 48, 49, 50, 51, 52, 53, 54, 55, 56, 57] (by decide +kernel) (by decide +kernel)
set_option maxRecDepth 20000 in
theorem gX7_winds_X1_waysBehind_n150 : GoodIn wsX7_winds (wsX1_waysBehind) := ggX7_winds_X1_waysBehind
set_option maxRecDepth 20000 in
theorem ggX7_winds_X5_agree : GoodIn wsX7_winds wsX5_agree := goodIn_r _ [27, 28, 29, 30, 10, 11, 12, 31, 14, 32, 33, 17, 22, 23, 58, 59, 60, 47, 48, 49, 50, 51, 52, 53, 54, 55, 56, 57] (by decide +kernel) (by decide +kernel)
set_option maxRecDepth 20000 in
theorem gX7_winds_X5_agree_n220 : GoodIn wsX7_winds (wsX5_agree) := ggX7_winds_X5_agree
theorem dX7_winds_0 : decode cX7_winds 0 = .ok (.iconst 0, 1) := by decide +kernel
theorem dX7_winds_1 : decode cX7_winds 1 = .ok (.istore_n 1, 1) := by decide +kernel
theorem dX7_winds_2 : decode cX7_winds 2 = .ok (.iconst 0, 1) := by decide +kernel
theorem dX7_winds_3 : decode cX7_winds 3 = .ok (.istore_n 2, 1) := by decide +kernel
theorem dX7_winds_4 : decode cX7_winds 4 = .ok (.iload_n 2, 1) := by decide +kernel
theorem dX7_winds_5 : decode cX7_winds 5 = .ok (.aload_n 0, 1) := by decide +kernel
theorem dX7_winds_6 : decode cX7_winds 6 = .ok (.getfield 26, 3) := by decide +kernel
theorem dX7_winds_9 : decode cX7_winds 9 = .ok (.getfield 95, 3) := by decide +kernel
theorem dX7_winds_12 : decode cX7_winds 12 = .ok (.if_icmp .ge 43, 3) := by decide +kernel
theorem dX7_winds_15 : decode cX7_winds 15 = .ok (.aload_n 0, 1) := by decide +kernel
theorem dX7_winds_16 : decode cX7_winds 16 = .ok (.getfield 40, 3) := by decide +kernel
theorem dX7_winds_19 : decode cX7_winds 19 = .ok (.aload_n 0, 1) := by decide +kernel
theorem dX7_winds_20 : decode cX7_winds 20 = .ok (.getfield 19, 3) := by decide +kernel
theorem dX7_winds_23 : decode cX7_winds 23 = .ok (.aload_n 0, 1) := by decide +kernel
theorem dX7_winds_24 : decode cX7_winds 24 = .ok (.getfield 26, 3) := by decide +kernel
theorem dX7_winds_27 : decode cX7_winds 27 = .ok (.aload_n 0, 1) := by decide +kernel
theorem dX7_winds_28 : decode cX7_winds 28 = .ok (.getfield 19, 3) := by decide +kernel
theorem dX7_winds_31 : decode cX7_winds 31 = .ok (.iload_n 2, 1) := by decide +kernel
theorem dX7_winds_32 : decode cX7_winds 32 = .ok (.iconst 0, 1) := by decide +kernel
theorem dX7_winds_33 : decode cX7_winds 33 = .ok (.iconst 0, 1) := by decide +kernel
theorem dX7_winds_34 : decode cX7_winds 34 = .ok (.invokevirtual 150, 3) := by decide +kernel
theorem dX7_winds_37 : decode cX7_winds 37 = .ok (.invokevirtual 220, 3) := by decide +kernel
theorem dX7_winds_40 : decode cX7_winds 40 = .ok (.ifCond .eq 9, 3) := by decide +kernel
theorem dX7_winds_43 : decode cX7_winds 43 = .ok (.iload_n 1, 1) := by decide +kernel
theorem dX7_winds_44 : decode cX7_winds 44 = .ok (.iconst 1, 1) := by decide +kernel
theorem dX7_winds_45 : decode cX7_winds 45 = .ok (.iload_n 2, 1) := by decide +kernel
theorem dX7_winds_46 : decode cX7_winds 46 = .ok (.ishl, 1) := by decide +kernel
theorem dX7_winds_47 : decode cX7_winds 47 = .ok (.ior, 1) := by decide +kernel
theorem dX7_winds_48 : decode cX7_winds 48 = .ok (.istore_n 1, 1) := by decide +kernel
theorem dX7_winds_49 : decode cX7_winds 49 = .ok (.iinc 2 1, 3) := by decide +kernel
theorem dX7_winds_52 : decode cX7_winds 52 = .ok (.goto (-48), 3) := by decide +kernel
theorem dX7_winds_55 : decode cX7_winds 55 = .ok (.iload_n 1, 1) := by decide +kernel
theorem dX7_winds_56 : decode cX7_winds 56 = .ok (.ireturn, 1) := by decide +kernel
set_option maxRecDepth 20000 in
theorem ggX7_rests_X1_hasWind : GoodIn wsX7_rests wsX1_hasWind := goodIn_r _ [6, 7, 70, 71, 72, 73] (by decide +kernel) (by decide +kernel)
set_option maxRecDepth 20000 in
theorem gX7_rests_X1_hasWind_n138 : GoodIn wsX7_rests (wsX1_hasWind) := ggX7_rests_X1_hasWind
set_option maxRecDepth 20000 in
theorem ggX7_rests_X7_mayHold : GoodIn wsX7_rests wsX7_mayHold := goodIn_r _ [12, 2, 13, 14, 11, 15, 50, 51, 52, 53, 54, 55, 56, 57, 58, 59, 60, 61, 62, 63, 64, 65, 66, 67, 68, 69] (by decide +kernel) (by decide +kernel)
set_option maxRecDepth 20000 in
theorem gX7_rests_X7_mayHold : GoodIn wsX7_rests (wsV RX7 224 RX7 yX7_mayHold wsX7_mayHold) := goodIn_app (goodIn_of _ (by decide +kernel)) ggX7_rests_X7_mayHold
set_option maxRecDepth 20000 in
theorem ggX7_rests_X7_isAtRest : GoodIn wsX7_rests wsX7_isAtRest := goodIn_r _ [19, 2, 20, 21, 22, 11, 23, 1, 24, 4, 25, 26, 27, 28, 29, 30, 31, 32, 33, 34, 35, 36, 37, 38, 39, 40, 41, 42, 43, 14, 15, 44, 45, 46, 47, 48, 49, 8, 9, 10, 12, 13, 50, 51, 52, 53, 54, 55, 56, 57, 58, 59, 60, 61, 62, 63, 64, 65, 66, 67, 68, 69, 70, 71, 72, 73] (by decide +kernel) (by decide +kernel)
set_option maxRecDepth 20000 in
theorem gX7_rests_X7_isAtRest : GoodIn wsX7_rests (wsV RX7 228 RX7 yX7_isAtRest wsX7_isAtRest) := goodIn_app (goodIn_of _ (by decide +kernel)) ggX7_rests_X7_isAtRest
theorem dX7_rests_0 : decode cX7_rests 0 = .ok (.aload_n 0, 1) := by decide +kernel
theorem dX7_rests_1 : decode cX7_rests 1 = .ok (.getfield 26, 3) := by decide +kernel
theorem dX7_rests_4 : decode cX7_rests 4 = .ok (.iload_n 1, 1) := by decide +kernel
theorem dX7_rests_5 : decode cX7_rests 5 = .ok (.invokevirtual 138, 3) := by decide +kernel
theorem dX7_rests_8 : decode cX7_rests 8 = .ok (.ifCond .ne 5, 3) := by decide +kernel
theorem dX7_rests_11 : decode cX7_rests 11 = .ok (.iconst (-1), 1) := by decide +kernel
theorem dX7_rests_12 : decode cX7_rests 12 = .ok (.ireturn, 1) := by decide +kernel
theorem dX7_rests_13 : decode cX7_rests 13 = .ok (.iload_n 2, 1) := by decide +kernel
theorem dX7_rests_14 : decode cX7_rests 14 = .ok (.ifCond .lt 8, 3) := by decide +kernel
theorem dX7_rests_17 : decode cX7_rests 17 = .ok (.iload_n 2, 1) := by decide +kernel
theorem dX7_rests_18 : decode cX7_rests 18 = .ok (.iconst 1, 1) := by decide +kernel
theorem dX7_rests_19 : decode cX7_rests 19 = .ok (.if_icmp .le 6, 3) := by decide +kernel
theorem dX7_rests_22 : decode cX7_rests 22 = .ok (.bipush (-2), 2) := by decide +kernel
theorem dX7_rests_24 : decode cX7_rests 24 = .ok (.ireturn, 1) := by decide +kernel
theorem dX7_rests_25 : decode cX7_rests 25 = .ok (.iconst 0, 1) := by decide +kernel
theorem dX7_rests_26 : decode cX7_rests 26 = .ok (.istore_n 3, 1) := by decide +kernel
theorem dX7_rests_27 : decode cX7_rests 27 = .ok (.bipush (-9), 2) := by decide +kernel
theorem dX7_rests_29 : decode cX7_rests 29 = .ok (.istore 4, 2) := by decide +kernel
theorem dX7_rests_31 : decode cX7_rests 31 = .ok (.iconst 0, 1) := by decide +kernel
theorem dX7_rests_32 : decode cX7_rests 32 = .ok (.istore 5, 2) := by decide +kernel
theorem dX7_rests_34 : decode cX7_rests 34 = .ok (.iload 5, 2) := by decide +kernel
theorem dX7_rests_36 : decode cX7_rests 36 = .ok (.aload_n 0, 1) := by decide +kernel
theorem dX7_rests_37 : decode cX7_rests 37 = .ok (.getfield 19, 3) := by decide +kernel
theorem dX7_rests_40 : decode cX7_rests 40 = .ok (.getfield 92, 3) := by decide +kernel
theorem dX7_rests_43 : decode cX7_rests 43 = .ok (.if_icmp .gt 87, 3) := by decide +kernel
theorem dX7_rests_46 : decode cX7_rests 46 = .ok (.iconst 0, 1) := by decide +kernel
theorem dX7_rests_47 : decode cX7_rests 47 = .ok (.istore 6, 2) := by decide +kernel
theorem dX7_rests_49 : decode cX7_rests 49 = .ok (.iload 6, 2) := by decide +kernel
theorem dX7_rests_51 : decode cX7_rests 51 = .ok (.aload_n 0, 1) := by decide +kernel
theorem dX7_rests_52 : decode cX7_rests 52 = .ok (.getfield 19, 3) := by decide +kernel
theorem dX7_rests_55 : decode cX7_rests 55 = .ok (.getfield 92, 3) := by decide +kernel
theorem dX7_rests_58 : decode cX7_rests 58 = .ok (.if_icmp .gt 66, 3) := by decide +kernel
theorem dX7_rests_61 : decode cX7_rests 61 = .ok (.aload_n 0, 1) := by decide +kernel
theorem dX7_rests_62 : decode cX7_rests 62 = .ok (.iconst 0, 1) := by decide +kernel
theorem dX7_rests_63 : decode cX7_rests 63 = .ok (.iload 5, 2) := by decide +kernel
theorem dX7_rests_65 : decode cX7_rests 65 = .ok (.invokevirtual 224, 3) := by decide +kernel
theorem dX7_rests_68 : decode cX7_rests 68 = .ok (.ifCond .eq 50, 3) := by decide +kernel
theorem dX7_rests_71 : decode cX7_rests 71 = .ok (.aload_n 0, 1) := by decide +kernel
theorem dX7_rests_72 : decode cX7_rests 72 = .ok (.iconst 1, 1) := by decide +kernel
theorem dX7_rests_73 : decode cX7_rests 73 = .ok (.iload 6, 2) := by decide +kernel
theorem dX7_rests_75 : decode cX7_rests 75 = .ok (.invokevirtual 224, 3) := by decide +kernel
theorem dX7_rests_78 : decode cX7_rests 78 = .ok (.ifCond .eq 40, 3) := by decide +kernel
theorem dX7_rests_81 : decode cX7_rests 81 = .ok (.aload_n 0, 1) := by decide +kernel
theorem dX7_rests_82 : decode cX7_rests 82 = .ok (.iload_n 1, 1) := by decide +kernel
theorem dX7_rests_83 : decode cX7_rests 83 = .ok (.iload 5, 2) := by decide +kernel
theorem dX7_rests_85 : decode cX7_rests 85 = .ok (.iload 6, 2) := by decide +kernel
theorem dX7_rests_87 : decode cX7_rests 87 = .ok (.invokevirtual 228, 3) := by decide +kernel
theorem dX7_rests_90 : decode cX7_rests 90 = .ok (.ifCond .eq 28, 3) := by decide +kernel
theorem dX7_rests_93 : decode cX7_rests 93 = .ok (.iinc 3 1, 3) := by decide +kernel
theorem dX7_rests_96 : decode cX7_rests 96 = .ok (.iload 4, 2) := by decide +kernel
theorem dX7_rests_98 : decode cX7_rests 98 = .ok (.bipush (-9), 2) := by decide +kernel
theorem dX7_rests_100 : decode cX7_rests 100 = .ok (.if_icmp .ne 14, 3) := by decide +kernel
theorem dX7_rests_103 : decode cX7_rests 103 = .ok (.bipush 10, 2) := by decide +kernel
theorem dX7_rests_105 : decode cX7_rests 105 = .ok (.iload 5, 2) := by decide +kernel
theorem dX7_rests_107 : decode cX7_rests 107 = .ok (.imul, 1) := by decide +kernel
theorem dX7_rests_108 : decode cX7_rests 108 = .ok (.iload 6, 2) := by decide +kernel
theorem dX7_rests_110 : decode cX7_rests 110 = .ok (.iadd, 1) := by decide +kernel
theorem dX7_rests_111 : decode cX7_rests 111 = .ok (.goto 5, 3) := by decide +kernel
theorem dX7_rests_114 : decode cX7_rests 114 = .ok (.iload 4, 2) := by decide +kernel
theorem dX7_rests_116 : decode cX7_rests 116 = .ok (.istore 4, 2) := by decide +kernel
theorem dX7_rests_118 : decode cX7_rests 118 = .ok (.iinc 6 1, 3) := by decide +kernel
theorem dX7_rests_121 : decode cX7_rests 121 = .ok (.goto (-72), 3) := by decide +kernel
theorem dX7_rests_124 : decode cX7_rests 124 = .ok (.iinc 5 1, 3) := by decide +kernel
theorem dX7_rests_127 : decode cX7_rests 127 = .ok (.goto (-93), 3) := by decide +kernel
theorem dX7_rests_130 : decode cX7_rests 130 = .ok (.iload_n 2, 1) := by decide +kernel
theorem dX7_rests_131 : decode cX7_rests 131 = .ok (.ifCond .ne 7, 3) := by decide +kernel
theorem dX7_rests_134 : decode cX7_rests 134 = .ok (.iload_n 3, 1) := by decide +kernel
theorem dX7_rests_135 : decode cX7_rests 135 = .ok (.goto 5, 3) := by decide +kernel
theorem dX7_rests_138 : decode cX7_rests 138 = .ok (.iload 4, 2) := by decide +kernel
theorem dX7_rests_140 : decode cX7_rests 140 = .ok (.ireturn, 1) := by decide +kernel
set_option maxRecDepth 20000 in
theorem ggX7_frost_X1_hasWind : GoodIn wsX7_frost wsX1_hasWind := goodIn_r _ [6, 7, 68, 69, 70, 71] (by decide +kernel) (by decide +kernel)
set_option maxRecDepth 20000 in
theorem gX7_frost_X1_hasWind_n138 : GoodIn wsX7_frost (wsX1_hasWind) := ggX7_frost_X1_hasWind
set_option maxRecDepth 20000 in
theorem ggX7_frost_X2_everyCock : GoodIn wsX7_frost wsX2_everyCock := goodIn_r _ [11, 12, 57, 58, 59, 60, 61, 62, 63, 64, 65, 66, 67] (by decide +kernel) (by decide +kernel)
set_option maxRecDepth 20000 in
theorem gX7_frost_X2_everyCock_n208 : GoodIn wsX7_frost (wsX2_everyCock) := ggX7_frost_X2_everyCock
set_option maxRecDepth 20000 in
theorem ggX7_frost_X1_brookUnder : GoodIn wsX7_frost wsX1_brookUnder := goodIn_r _ [15, 16, 17, 18, 4, 19, 20, 21, 22, 23, 24, 25, 9, 26, 27, 12, 28, 29, 30, 31, 32, 33, 34, 35, 36, 37, 38, 39, 68, 69, 70, 71, 57, 58, 59, 60, 61, 62, 63, 64, 65, 66, 67] (by decide +kernel) (by decide +kernel)
set_option maxRecDepth 20000 in
theorem gX7_frost_X1_brookUnder_n172 : GoodIn wsX7_frost (wsX1_brookUnder) := ggX7_frost_X1_brookUnder
set_option maxRecDepth 20000 in
theorem ggX7_frost_X7_waysToFreeze : GoodIn wsX7_frost wsX7_waysToFreeze := goodIn_r _ [43, 2, 44, 32, 23, 33, 48, 49, 50, 51, 52, 53, 54, 55, 56, 57, 58, 59, 60, 61, 62, 63, 64, 65, 66, 67] (by decide +kernel) (by decide +kernel)
set_option maxRecDepth 20000 in
theorem gX7_frost_X7_waysToFreeze : GoodIn wsX7_frost (wsV RX7 232 RX7 yX7_waysToFreeze wsX7_waysToFreeze) := goodIn_app (goodIn_of _ (by decide +kernel)) ggX7_frost_X7_waysToFreeze
set_option maxRecDepth 20000 in
theorem ggX7_frost_X7_commonDivisor : GoodIn wsX7_frost wsX7_commonDivisor := goodIn_r _ [47] (by decide +kernel) (by decide +kernel)
set_option maxRecDepth 20000 in
theorem gX7_frost_X7_commonDivisor : GoodIn wsX7_frost (va_wsS RX7 235 yX7_commonDivisor wsX7_commonDivisor) := goodIn_app (goodIn_of _ (by decide +kernel)) ggX7_frost_X7_commonDivisor
theorem dX7_frost_0 : decode cX7_frost 0 = .ok (.aload_n 0, 1) := by decide +kernel
theorem dX7_frost_1 : decode cX7_frost 1 = .ok (.getfield 26, 3) := by decide +kernel
theorem dX7_frost_4 : decode cX7_frost 4 = .ok (.iload_n 1, 1) := by decide +kernel
theorem dX7_frost_5 : decode cX7_frost 5 = .ok (.invokevirtual 138, 3) := by decide +kernel
theorem dX7_frost_8 : decode cX7_frost 8 = .ok (.ifCond .ne 5, 3) := by decide +kernel
theorem dX7_frost_11 : decode cX7_frost 11 = .ok (.iconst (-1), 1) := by decide +kernel
theorem dX7_frost_12 : decode cX7_frost 12 = .ok (.ireturn, 1) := by decide +kernel
theorem dX7_frost_13 : decode cX7_frost 13 = .ok (.iload_n 2, 1) := by decide +kernel
theorem dX7_frost_14 : decode cX7_frost 14 = .ok (.ifCond .lt 9, 3) := by decide +kernel
theorem dX7_frost_17 : decode cX7_frost 17 = .ok (.iload_n 2, 1) := by decide +kernel
theorem dX7_frost_18 : decode cX7_frost 18 = .ok (.bipush 10, 2) := by decide +kernel
theorem dX7_frost_20 : decode cX7_frost 20 = .ok (.if_icmp .le 6, 3) := by decide +kernel
theorem dX7_frost_23 : decode cX7_frost 23 = .ok (.bipush (-2), 2) := by decide +kernel
theorem dX7_frost_25 : decode cX7_frost 25 = .ok (.ireturn, 1) := by decide +kernel
theorem dX7_frost_26 : decode cX7_frost 26 = .ok (.aload_n 0, 1) := by decide +kernel
theorem dX7_frost_27 : decode cX7_frost 27 = .ok (.getfield 19, 3) := by decide +kernel
theorem dX7_frost_30 : decode cX7_frost 30 = .ok (.invokevirtual 208, 3) := by decide +kernel
theorem dX7_frost_33 : decode cX7_frost 33 = .ok (.istore 4, 2) := by decide +kernel
theorem dX7_frost_35 : decode cX7_frost 35 = .ok (.iconst 0, 1) := by decide +kernel
theorem dX7_frost_36 : decode cX7_frost 36 = .ok (.istore 5, 2) := by decide +kernel
theorem dX7_frost_38 : decode cX7_frost 38 = .ok (.iconst 0, 1) := by decide +kernel
theorem dX7_frost_39 : decode cX7_frost 39 = .ok (.istore 6, 2) := by decide +kernel
theorem dX7_frost_41 : decode cX7_frost 41 = .ok (.iload 6, 2) := by decide +kernel
theorem dX7_frost_43 : decode cX7_frost 43 = .ok (.iload 4, 2) := by decide +kernel
theorem dX7_frost_45 : decode cX7_frost 45 = .ok (.if_icmp .gt 47, 3) := by decide +kernel
theorem dX7_frost_48 : decode cX7_frost 48 = .ok (.aload_n 0, 1) := by decide +kernel
theorem dX7_frost_49 : decode cX7_frost 49 = .ok (.getfield 26, 3) := by decide +kernel
theorem dX7_frost_52 : decode cX7_frost 52 = .ok (.aload_n 0, 1) := by decide +kernel
theorem dX7_frost_53 : decode cX7_frost 53 = .ok (.getfield 19, 3) := by decide +kernel
theorem dX7_frost_56 : decode cX7_frost 56 = .ok (.iload_n 1, 1) := by decide +kernel
theorem dX7_frost_57 : decode cX7_frost 57 = .ok (.aload_n 0, 1) := by decide +kernel
theorem dX7_frost_58 : decode cX7_frost 58 = .ok (.getfield 19, 3) := by decide +kernel
theorem dX7_frost_61 : decode cX7_frost 61 = .ok (.getfield 135, 3) := by decide +kernel
theorem dX7_frost_64 : decode cX7_frost 64 = .ok (.iload 6, 2) := by decide +kernel
theorem dX7_frost_66 : decode cX7_frost 66 = .ok (.ior, 1) := by decide +kernel
theorem dX7_frost_67 : decode cX7_frost 67 = .ok (.iconst 0, 1) := by decide +kernel
theorem dX7_frost_68 : decode cX7_frost 68 = .ok (.invokevirtual 172, 3) := by decide +kernel
theorem dX7_frost_71 : decode cX7_frost 71 = .ok (.ifCond .ne 15, 3) := by decide +kernel
theorem dX7_frost_74 : decode cX7_frost 74 = .ok (.iload 5, 2) := by decide +kernel
theorem dX7_frost_76 : decode cX7_frost 76 = .ok (.aload_n 0, 1) := by decide +kernel
theorem dX7_frost_77 : decode cX7_frost 77 = .ok (.iload 6, 2) := by decide +kernel
theorem dX7_frost_79 : decode cX7_frost 79 = .ok (.iload_n 2, 1) := by decide +kernel
theorem dX7_frost_80 : decode cX7_frost 80 = .ok (.invokevirtual 232, 3) := by decide +kernel
theorem dX7_frost_83 : decode cX7_frost 83 = .ok (.iadd, 1) := by decide +kernel
theorem dX7_frost_84 : decode cX7_frost 84 = .ok (.istore 5, 2) := by decide +kernel
theorem dX7_frost_86 : decode cX7_frost 86 = .ok (.iinc 6 1, 3) := by decide +kernel
theorem dX7_frost_89 : decode cX7_frost 89 = .ok (.goto (-48), 3) := by decide +kernel
theorem dX7_frost_92 : decode cX7_frost 92 = .ok (.iconst 1, 1) := by decide +kernel
theorem dX7_frost_93 : decode cX7_frost 93 = .ok (.istore 6, 2) := by decide +kernel
theorem dX7_frost_95 : decode cX7_frost 95 = .ok (.iconst 0, 1) := by decide +kernel
theorem dX7_frost_96 : decode cX7_frost 96 = .ok (.istore 7, 2) := by decide +kernel
theorem dX7_frost_98 : decode cX7_frost 98 = .ok (.iload 7, 2) := by decide +kernel
theorem dX7_frost_100 : decode cX7_frost 100 = .ok (.aload_n 0, 1) := by decide +kernel
theorem dX7_frost_101 : decode cX7_frost 101 = .ok (.getfield 19, 3) := by decide +kernel
theorem dX7_frost_104 : decode cX7_frost 104 = .ok (.getfield 92, 3) := by decide +kernel
theorem dX7_frost_107 : decode cX7_frost 107 = .ok (.if_icmp .ge 16, 3) := by decide +kernel
theorem dX7_frost_110 : decode cX7_frost 110 = .ok (.iload 6, 2) := by decide +kernel
theorem dX7_frost_112 : decode cX7_frost 112 = .ok (.bipush 10, 2) := by decide +kernel
theorem dX7_frost_114 : decode cX7_frost 114 = .ok (.imul, 1) := by decide +kernel
theorem dX7_frost_115 : decode cX7_frost 115 = .ok (.istore 6, 2) := by decide +kernel
theorem dX7_frost_117 : decode cX7_frost 117 = .ok (.iinc 7 1, 3) := by decide +kernel
theorem dX7_frost_120 : decode cX7_frost 120 = .ok (.goto (-22), 3) := by decide +kernel
theorem dX7_frost_123 : decode cX7_frost 123 = .ok (.iload 6, 2) := by decide +kernel
theorem dX7_frost_125 : decode cX7_frost 125 = .ok (.iload 5, 2) := by decide +kernel
theorem dX7_frost_127 : decode cX7_frost 127 = .ok (.invokestatic 235, 3) := by decide +kernel
theorem dX7_frost_130 : decode cX7_frost 130 = .ok (.istore 7, 2) := by decide +kernel
theorem dX7_frost_132 : decode cX7_frost 132 = .ok (.iload 7, 2) := by decide +kernel
theorem dX7_frost_134 : decode cX7_frost 134 = .ok (.iconst 1, 1) := by decide +kernel
theorem dX7_frost_135 : decode cX7_frost 135 = .ok (.if_icmp .ge 15, 3) := by decide +kernel
theorem dX7_frost_138 : decode cX7_frost 138 = .ok (.iload_n 3, 1) := by decide +kernel
theorem dX7_frost_139 : decode cX7_frost 139 = .ok (.ifCond .eq 8, 3) := by decide +kernel
theorem dX7_frost_142 : decode cX7_frost 142 = .ok (.iload 5, 2) := by decide +kernel
theorem dX7_frost_144 : decode cX7_frost 144 = .ok (.goto 5, 3) := by decide +kernel
theorem dX7_frost_147 : decode cX7_frost 147 = .ok (.iload 6, 2) := by decide +kernel
theorem dX7_frost_149 : decode cX7_frost 149 = .ok (.ireturn, 1) := by decide +kernel
theorem dX7_frost_150 : decode cX7_frost 150 = .ok (.iload_n 3, 1) := by decide +kernel
theorem dX7_frost_151 : decode cX7_frost 151 = .ok (.ifCond .eq 11, 3) := by decide +kernel
theorem dX7_frost_154 : decode cX7_frost 154 = .ok (.iload 5, 2) := by decide +kernel
theorem dX7_frost_156 : decode cX7_frost 156 = .ok (.iload 7, 2) := by decide +kernel
theorem dX7_frost_158 : decode cX7_frost 158 = .ok (.idiv, 1) := by decide +kernel
theorem dX7_frost_159 : decode cX7_frost 159 = .ok (.goto 8, 3) := by decide +kernel
theorem dX7_frost_162 : decode cX7_frost 162 = .ok (.iload 6, 2) := by decide +kernel
theorem dX7_frost_164 : decode cX7_frost 164 = .ok (.iload 7, 2) := by decide +kernel
theorem dX7_frost_166 : decode cX7_frost 166 = .ok (.idiv, 1) := by decide +kernel
theorem dX7_frost_167 : decode cX7_frost 167 = .ok (.ireturn, 1) := by decide +kernel
theorem dX7_seed_0 : decode cX7_seed 0 = .ok (.aload_n 0, 1) := by decide +kernel
theorem dX7_seed_1 : decode cX7_seed 1 = .ok (.getfield 61, 3) := by decide +kernel
theorem dX7_seed_4 : decode cX7_seed 4 = .ok (.lstore_n 3, 1) := by decide +kernel
theorem dX7_seed_5 : decode cX7_seed 5 = .ok (.aload_n 0, 1) := by decide +kernel
theorem dX7_seed_6 : decode cX7_seed 6 = .ok (.lload_n 1, 1) := by decide +kernel
theorem dX7_seed_7 : decode cX7_seed 7 = .ok (.putfield 61, 3) := by decide +kernel
theorem dX7_seed_10 : decode cX7_seed 10 = .ok (.lload_n 3, 1) := by decide +kernel
theorem dX7_seed_11 : decode cX7_seed 11 = .ok (.lreturn, 1) := by decide +kernel
set_option maxRecDepth 20000 in
theorem ggX7_years_X1_daysInAll : GoodIn wsX7_years wsX1_daysInAll := goodIn_r _ [10, 11, 12, 13, 14, 15, 62, 63, 64, 65] (by decide +kernel) (by decide +kernel)
set_option maxRecDepth 20000 in
theorem gX7_years_X1_daysInAll_n238 : GoodIn wsX7_years (wsX1_daysInAll) := ggX7_years_X1_daysInAll
set_option maxRecDepth 20000 in
theorem ggX7_years_X2_copyFrom : GoodIn wsX7_years wsX2_copyFrom := goodIn_r _ [19, 20, 21, 22, 23, 24, 25, 26, 27, 28, 29, 30, 31, 14, 32, 66, 67, 68, 69, 70, 71, 72, 73, 74, 75, 76] (by decide +kernel) (by decide +kernel)
set_option maxRecDepth 20000 in
theorem gX7_years_X2_copyFrom_n80 : GoodIn wsX7_years (wsX2_copyFrom) := ggX7_years_X2_copyFrom
set_option maxRecDepth 20000 in
theorem ggX7_years_X1_windOfDay : GoodIn wsX7_years wsX1_windOfDay := goodIn_r _ [35, 11, 12, 13, 14, 15, 62, 63, 64, 65] (by decide +kernel) (by decide +kernel)
set_option maxRecDepth 20000 in
theorem gX7_years_X1_windOfDay_n245 : GoodIn wsX7_years (wsX1_windOfDay) := ggX7_years_X1_windOfDay
set_option maxRecDepth 20000 in
theorem ggX7_years_X1_blowOver : GoodIn wsX7_years wsX1_blowOver := goodIn_r _ [38, 39, 40, 41, 8, 42, 43, 44, 13, 14, 15, 45, 17, 46, 47, 25, 21, 20, 23, 22, 48, 49, 50, 51, 52, 26, 24, 29, 66, 67, 68, 69, 70, 71, 72, 73, 74, 75, 76, 62, 63, 64, 65] (by decide +kernel) (by decide +kernel)
set_option maxRecDepth 20000 in
theorem gX7_years_X1_blowOver_n157 : GoodIn wsX7_years (wsX1_blowOver) := ggX7_years_X1_blowOver
theorem dX7_years_0 : decode cX7_years 0 = .ok (.iload_n 1, 1) := by decide +kernel
theorem dX7_years_1 : decode cX7_years 1 = .ok (.iconst 1, 1) := by decide +kernel
theorem dX7_years_2 : decode cX7_years 2 = .ok (.if_icmp .lt 9, 3) := by decide +kernel
theorem dX7_years_5 : decode cX7_years 5 = .ok (.iload_n 1, 1) := by decide +kernel
theorem dX7_years_6 : decode cX7_years 6 = .ok (.bipush 30, 2) := by decide +kernel
theorem dX7_years_8 : decode cX7_years 8 = .ok (.if_icmp .le 6, 3) := by decide +kernel
theorem dX7_years_11 : decode cX7_years 11 = .ok (.bipush (-2), 2) := by decide +kernel
theorem dX7_years_13 : decode cX7_years 13 = .ok (.ireturn, 1) := by decide +kernel
theorem dX7_years_14 : decode cX7_years 14 = .ok (.aload_n 0, 1) := by decide +kernel
theorem dX7_years_15 : decode cX7_years 15 = .ok (.getfield 26, 3) := by decide +kernel
theorem dX7_years_18 : decode cX7_years 18 = .ok (.invokevirtual 238, 3) := by decide +kernel
theorem dX7_years_21 : decode cX7_years 21 = .ok (.istore_n 2, 1) := by decide +kernel
theorem dX7_years_22 : decode cX7_years 22 = .ok (.iload_n 2, 1) := by decide +kernel
theorem dX7_years_23 : decode cX7_years 23 = .ok (.iconst 1, 1) := by decide +kernel
theorem dX7_years_24 : decode cX7_years 24 = .ok (.if_icmp .ge 5, 3) := by decide +kernel
theorem dX7_years_27 : decode cX7_years 27 = .ok (.iconst 0, 1) := by decide +kernel
theorem dX7_years_28 : decode cX7_years 28 = .ok (.ireturn, 1) := by decide +kernel
theorem dX7_years_29 : decode cX7_years 29 = .ok (.aload_n 0, 1) := by decide +kernel
theorem dX7_years_30 : decode cX7_years 30 = .ok (.getfield 58, 3) := by decide +kernel
theorem dX7_years_33 : decode cX7_years 33 = .ok (.aload_n 0, 1) := by decide +kernel
theorem dX7_years_34 : decode cX7_years 34 = .ok (.getfield 19, 3) := by decide +kernel
theorem dX7_years_37 : decode cX7_years 37 = .ok (.invokevirtual 80, 3) := by decide +kernel
theorem dX7_years_40 : decode cX7_years 40 = .ok (.iconst 0, 1) := by decide +kernel
theorem dX7_years_41 : decode cX7_years 41 = .ok (.istore_n 3, 1) := by decide +kernel
theorem dX7_years_42 : decode cX7_years 42 = .ok (.iconst 0, 1) := by decide +kernel
theorem dX7_years_43 : decode cX7_years 43 = .ok (.istore 4, 2) := by decide +kernel
theorem dX7_years_45 : decode cX7_years 45 = .ok (.iload 4, 2) := by decide +kernel
theorem dX7_years_47 : decode cX7_years 47 = .ok (.iload_n 1, 1) := by decide +kernel
theorem dX7_years_48 : decode cX7_years 48 = .ok (.if_icmp .ge 64, 3) := by decide +kernel
theorem dX7_years_51 : decode cX7_years 51 = .ok (.aload_n 0, 1) := by decide +kernel
theorem dX7_years_52 : decode cX7_years 52 = .ok (.aload_n 0, 1) := by decide +kernel
theorem dX7_years_53 : decode cX7_years 53 = .ok (.getfield 61, 3) := by decide +kernel
theorem dX7_years_56 : decode cX7_years 56 = .ok (.ldc2_w 241, 3) := by decide +kernel
theorem dX7_years_59 : decode cX7_years 59 = .ok (.lmul, 1) := by decide +kernel
theorem dX7_years_60 : decode cX7_years 60 = .ok (.ldc2_w 243, 3) := by decide +kernel
theorem dX7_years_63 : decode cX7_years 63 = .ok (.ladd, 1) := by decide +kernel
theorem dX7_years_64 : decode cX7_years 64 = .ok (.putfield 61, 3) := by decide +kernel
theorem dX7_years_67 : decode cX7_years 67 = .ok (.aload_n 0, 1) := by decide +kernel
theorem dX7_years_68 : decode cX7_years 68 = .ok (.getfield 61, 3) := by decide +kernel
theorem dX7_years_71 : decode cX7_years 71 = .ok (.bipush 33, 2) := by decide +kernel
theorem dX7_years_73 : decode cX7_years 73 = .ok (.lushr, 1) := by decide +kernel
theorem dX7_years_74 : decode cX7_years 74 = .ok (.iload_n 2, 1) := by decide +kernel
theorem dX7_years_75 : decode cX7_years 75 = .ok (.i2l, 1) := by decide +kernel
theorem dX7_years_76 : decode cX7_years 76 = .ok (.lrem, 1) := by decide +kernel
theorem dX7_years_77 : decode cX7_years 77 = .ok (.l2i, 1) := by decide +kernel
theorem dX7_years_78 : decode cX7_years 78 = .ok (.istore 5, 2) := by decide +kernel
theorem dX7_years_80 : decode cX7_years 80 = .ok (.aload_n 0, 1) := by decide +kernel
theorem dX7_years_81 : decode cX7_years 81 = .ok (.getfield 26, 3) := by decide +kernel
theorem dX7_years_84 : decode cX7_years 84 = .ok (.aload_n 0, 1) := by decide +kernel
theorem dX7_years_85 : decode cX7_years 85 = .ok (.getfield 58, 3) := by decide +kernel
theorem dX7_years_88 : decode cX7_years 88 = .ok (.aload_n 0, 1) := by decide +kernel
theorem dX7_years_89 : decode cX7_years 89 = .ok (.getfield 26, 3) := by decide +kernel
theorem dX7_years_92 : decode cX7_years 92 = .ok (.iload 5, 2) := by decide +kernel
theorem dX7_years_94 : decode cX7_years 94 = .ok (.invokevirtual 245, 3) := by decide +kernel
theorem dX7_years_97 : decode cX7_years 97 = .ok (.invokevirtual 157, 3) := by decide +kernel
theorem dX7_years_100 : decode cX7_years 100 = .ok (.ifCond .ne 6, 3) := by decide +kernel
theorem dX7_years_103 : decode cX7_years 103 = .ok (.iinc 3 1, 3) := by decide +kernel
theorem dX7_years_106 : decode cX7_years 106 = .ok (.iinc 4 1, 3) := by decide +kernel
theorem dX7_years_109 : decode cX7_years 109 = .ok (.goto (-64), 3) := by decide +kernel
theorem dX7_years_112 : decode cX7_years 112 = .ok (.iload_n 3, 1) := by decide +kernel
theorem dX7_years_113 : decode cX7_years 113 = .ok (.ireturn, 1) := by decide +kernel
set_option maxRecDepth 20000 in
theorem ggX7_keep_X6_store : GoodIn wsX7_keep wsX6_store := goodIn_r _ [6, 7, 8, 9, 10, 11, 12, 13, 14, 15, 16, 17, 18, 19, 20, 21, 22, 23, 24, 25, 26, 36, 37, 38, 39, 40, 41, 42, 43, 44, 45, 46, 47, 48] (by decide +kernel) (by decide +kernel)
set_option maxRecDepth 20000 in
theorem gX7_keep_X6_store_n248 : GoodIn wsX7_keep (wsX6_store) := ggX7_keep_X6_store
theorem dX7_keep_0 : decode cX7_keep 0 = .ok (.aload_n 0, 1) := by decide +kernel
theorem dX7_keep_1 : decode cX7_keep 1 = .ok (.getfield 47, 3) := by decide +kernel
theorem dX7_keep_4 : decode cX7_keep 4 = .ok (.iload_n 1, 1) := by decide +kernel
theorem dX7_keep_5 : decode cX7_keep 5 = .ok (.aload_n 0, 1) := by decide +kernel
theorem dX7_keep_6 : decode cX7_keep 6 = .ok (.getfield 19, 3) := by decide +kernel
theorem dX7_keep_9 : decode cX7_keep 9 = .ok (.invokevirtual 248, 3) := by decide +kernel
theorem dX7_keep_12 : decode cX7_keep 12 = .ok (.ireturn, 1) := by decide +kernel
set_option maxRecDepth 20000 in
theorem ggX7_again_X6_fetch : GoodIn wsX7_again wsX6_fetch := goodIn_r _ [7, 8, 9, 10, 11, 12, 13, 14, 15, 16, 17, 18, 19, 20, 21, 22, 23, 24, 25, 26, 27, 28, 29, 44, 45, 46, 47, 48, 49, 50, 51, 52, 53, 54, 55, 56] (by decide +kernel) (by decide +kernel)
set_option maxRecDepth 20000 in
theorem gX7_again_X6_fetch_n252 : GoodIn wsX7_again (wsX6_fetch) := ggX7_again_X6_fetch
set_option maxRecDepth 20000 in
theorem ggX7_again_X0_forget : GoodIn wsX7_again wsX0_forget := goodIn_r _ [33, 34, 57, 58, 59] (by decide +kernel) (by decide +kernel)
set_option maxRecDepth 20000 in
theorem gX7_again_X0_forget_n88 : GoodIn wsX7_again (wsX0_forget) := ggX7_again_X0_forget
theorem dX7_again_0 : decode cX7_again 0 = .ok (.aload_n 0, 1) := by decide +kernel
theorem dX7_again_1 : decode cX7_again 1 = .ok (.getfield 47, 3) := by decide +kernel
theorem dX7_again_4 : decode cX7_again 4 = .ok (.iload_n 1, 1) := by decide +kernel
theorem dX7_again_5 : decode cX7_again 5 = .ok (.aload_n 0, 1) := by decide +kernel
theorem dX7_again_6 : decode cX7_again 6 = .ok (.getfield 19, 3) := by decide +kernel
theorem dX7_again_9 : decode cX7_again 9 = .ok (.invokevirtual 252, 3) := by decide +kernel
theorem dX7_again_12 : decode cX7_again 12 = .ok (.istore_n 2, 1) := by decide +kernel
theorem dX7_again_13 : decode cX7_again 13 = .ok (.iload_n 2, 1) := by decide +kernel
theorem dX7_again_14 : decode cX7_again 14 = .ok (.ifCond .lt 10, 3) := by decide +kernel
theorem dX7_again_17 : decode cX7_again 17 = .ok (.aload_n 0, 1) := by decide +kernel
theorem dX7_again_18 : decode cX7_again 18 = .ok (.getfield 33, 3) := by decide +kernel
theorem dX7_again_21 : decode cX7_again 21 = .ok (.invokevirtual 88, 3) := by decide +kernel
theorem dX7_again_24 : decode cX7_again 24 = .ok (.iload_n 2, 1) := by decide +kernel
theorem dX7_again_25 : decode cX7_again 25 = .ok (.ireturn, 1) := by decide +kernel
set_option maxRecDepth 20000 in
theorem ggX7_count_X2_weightFor : GoodIn wsX7_count wsX2_weightFor := goodIn_r _ [9, 10, 11, 12, 13, 14, 15, 16, 17, 18, 38, 39, 40, 41, 42, 43, 44, 45, 46, 47, 48] (by decide +kernel) (by decide +kernel)
set_option maxRecDepth 20000 in
theorem gX7_count_X2_weightFor_n259 : GoodIn wsX7_count (wsX2_weightFor) := ggX7_count_X2_weightFor
set_option maxRecDepth 20000 in
theorem ggX7_count_X2_treeCells : GoodIn wsX7_count wsX2_treeCells := goodIn_r _ [21, 22, 38, 39, 40, 41, 42, 43, 44, 45, 46, 47, 48] (by decide +kernel) (by decide +kernel)
set_option maxRecDepth 20000 in
theorem gX7_count_X2_treeCells_n197 : GoodIn wsX7_count (wsX2_treeCells) := ggX7_count_X2_treeCells
theorem dX7_count_0 : decode cX7_count 0 = .ok (.iload_n 1, 1) := by decide +kernel
theorem dX7_count_1 : decode cX7_count 1 = .ok (.tableswitch 149 0 10 #[59, 67, 75, 83, 91, 99, 108, 117, 125, 133, 141], 59) := by decide +kernel
theorem dX7_count_60 : decode cX7_count 60 = .ok (.aload_n 0, 1) := by decide +kernel
theorem dX7_count_61 : decode cX7_count 61 = .ok (.getfield 12, 3) := by decide +kernel
theorem dX7_count_64 : decode cX7_count 64 = .ok (.getfield 69, 3) := by decide +kernel
theorem dX7_count_67 : decode cX7_count 67 = .ok (.ireturn, 1) := by decide +kernel
theorem dX7_count_68 : decode cX7_count 68 = .ok (.aload_n 0, 1) := by decide +kernel
theorem dX7_count_69 : decode cX7_count 69 = .ok (.getfield 19, 3) := by decide +kernel
theorem dX7_count_72 : decode cX7_count 72 = .ok (.getfield 92, 3) := by decide +kernel
theorem dX7_count_75 : decode cX7_count 75 = .ok (.ireturn, 1) := by decide +kernel
theorem dX7_count_76 : decode cX7_count 76 = .ok (.aload_n 0, 1) := by decide +kernel
theorem dX7_count_77 : decode cX7_count 77 = .ok (.getfield 26, 3) := by decide +kernel
theorem dX7_count_80 : decode cX7_count 80 = .ok (.getfield 95, 3) := by decide +kernel
theorem dX7_count_83 : decode cX7_count 83 = .ok (.ireturn, 1) := by decide +kernel
theorem dX7_count_84 : decode cX7_count 84 = .ok (.aload_n 0, 1) := by decide +kernel
theorem dX7_count_85 : decode cX7_count 85 = .ok (.getfield 19, 3) := by decide +kernel
theorem dX7_count_88 : decode cX7_count 88 = .ok (.getfield 255, 3) := by decide +kernel
theorem dX7_count_91 : decode cX7_count 91 = .ok (.ireturn, 1) := by decide +kernel
theorem dX7_count_92 : decode cX7_count 92 = .ok (.aload_n 0, 1) := by decide +kernel
theorem dX7_count_93 : decode cX7_count 93 = .ok (.getfield 19, 3) := by decide +kernel
theorem dX7_count_96 : decode cX7_count 96 = .ok (.getfield 258, 3) := by decide +kernel
theorem dX7_count_99 : decode cX7_count 99 = .ok (.ireturn, 1) := by decide +kernel
theorem dX7_count_100 : decode cX7_count 100 = .ok (.aload_n 0, 1) := by decide +kernel
theorem dX7_count_101 : decode cX7_count 101 = .ok (.getfield 19, 3) := by decide +kernel
theorem dX7_count_104 : decode cX7_count 104 = .ok (.iconst 0, 1) := by decide +kernel
theorem dX7_count_105 : decode cX7_count 105 = .ok (.invokevirtual 259, 3) := by decide +kernel
theorem dX7_count_108 : decode cX7_count 108 = .ok (.ireturn, 1) := by decide +kernel
theorem dX7_count_109 : decode cX7_count 109 = .ok (.aload_n 0, 1) := by decide +kernel
theorem dX7_count_110 : decode cX7_count 110 = .ok (.getfield 19, 3) := by decide +kernel
theorem dX7_count_113 : decode cX7_count 113 = .ok (.iconst 1, 1) := by decide +kernel
theorem dX7_count_114 : decode cX7_count 114 = .ok (.invokevirtual 259, 3) := by decide +kernel
theorem dX7_count_117 : decode cX7_count 117 = .ok (.ireturn, 1) := by decide +kernel
theorem dX7_count_118 : decode cX7_count 118 = .ok (.aload_n 0, 1) := by decide +kernel
theorem dX7_count_119 : decode cX7_count 119 = .ok (.getfield 19, 3) := by decide +kernel
theorem dX7_count_122 : decode cX7_count 122 = .ok (.invokevirtual 197, 3) := by decide +kernel
theorem dX7_count_125 : decode cX7_count 125 = .ok (.ireturn, 1) := by decide +kernel
theorem dX7_count_126 : decode cX7_count 126 = .ok (.aload_n 0, 1) := by decide +kernel
theorem dX7_count_127 : decode cX7_count 127 = .ok (.getfield 19, 3) := by decide +kernel
theorem dX7_count_130 : decode cX7_count 130 = .ok (.getfield 135, 3) := by decide +kernel
theorem dX7_count_133 : decode cX7_count 133 = .ok (.ireturn, 1) := by decide +kernel
theorem dX7_count_134 : decode cX7_count 134 = .ok (.aload_n 0, 1) := by decide +kernel
theorem dX7_count_135 : decode cX7_count 135 = .ok (.getfield 33, 3) := by decide +kernel
theorem dX7_count_138 : decode cX7_count 138 = .ok (.getfield 262, 3) := by decide +kernel
theorem dX7_count_141 : decode cX7_count 141 = .ok (.ireturn, 1) := by decide +kernel
theorem dX7_count_142 : decode cX7_count 142 = .ok (.aload_n 0, 1) := by decide +kernel
theorem dX7_count_143 : decode cX7_count 143 = .ok (.getfield 40, 3) := by decide +kernel
theorem dX7_count_146 : decode cX7_count 146 = .ok (.getfield 217, 3) := by decide +kernel
theorem dX7_count_149 : decode cX7_count 149 = .ok (.ireturn, 1) := by decide +kernel
theorem dX7_count_150 : decode cX7_count 150 = .ok (.bipush (-2), 2) := by decide +kernel
theorem dX7_count_152 : decode cX7_count 152 = .ok (.ireturn, 1) := by decide +kernel
set_option maxRecDepth 20000 in
theorem ggX7_mayHold_X7_bit : GoodIn wsX7_mayHold wsX7_bit := goodIn_r _ [5] (by decide +kernel) (by decide +kernel)
set_option maxRecDepth 20000 in
theorem gX7_mayHold_X7_bit : GoodIn wsX7_mayHold (va_wsS RX7 119 yX7_bit wsX7_bit) := goodIn_app (goodIn_of _ (by decide +kernel)) ggX7_mayHold_X7_bit
theorem dX7_mayHold_0 : decode cX7_mayHold 0 = .ok (.iload_n 2, 1) := by decide +kernel
theorem dX7_mayHold_1 : decode cX7_mayHold 1 = .ok (.ifCond .eq 20, 3) := by decide +kernel
theorem dX7_mayHold_4 : decode cX7_mayHold 4 = .ok (.aload_n 0, 1) := by decide +kernel
theorem dX7_mayHold_5 : decode cX7_mayHold 5 = .ok (.getfield 19, 3) := by decide +kernel
theorem dX7_mayHold_8 : decode cX7_mayHold 8 = .ok (.getfield 116, 3) := by decide +kernel
theorem dX7_mayHold_11 : decode cX7_mayHold 11 = .ok (.iload_n 2, 1) := by decide +kernel
theorem dX7_mayHold_12 : decode cX7_mayHold 12 = .ok (.iconst 1, 1) := by decide +kernel
theorem dX7_mayHold_13 : decode cX7_mayHold 13 = .ok (.isub, 1) := by decide +kernel
theorem dX7_mayHold_14 : decode cX7_mayHold 14 = .ok (.invokestatic 119, 3) := by decide +kernel
theorem dX7_mayHold_17 : decode cX7_mayHold 17 = .ok (.iload_n 1, 1) := by decide +kernel
theorem dX7_mayHold_18 : decode cX7_mayHold 18 = .ok (.if_icmp .ne 7, 3) := by decide +kernel
theorem dX7_mayHold_21 : decode cX7_mayHold 21 = .ok (.iconst 1, 1) := by decide +kernel
theorem dX7_mayHold_22 : decode cX7_mayHold 22 = .ok (.goto 4, 3) := by decide +kernel
theorem dX7_mayHold_25 : decode cX7_mayHold 25 = .ok (.iconst 0, 1) := by decide +kernel
theorem dX7_mayHold_26 : decode cX7_mayHold 26 = .ok (.ireturn, 1) := by decide +kernel
set_option maxRecDepth 20000 in
theorem ggX7_brookHeld_X1_brookUnder : GoodIn wsX7_brookHeld wsX1_brookUnder := goodIn_r _ [6, 7, 8, 9, 4, 10, 11, 12, 13, 14, 15, 16, 17, 18, 19, 20, 21, 22, 23, 24, 25, 26, 27, 28, 29, 30, 31, 32, 42, 43, 44, 45, 46, 47, 48, 49, 50, 51, 52, 53, 54, 55, 56] (by decide +kernel) (by decide +kernel)
set_option maxRecDepth 20000 in
theorem gX7_brookHeld_X1_brookUnder_n172 : GoodIn wsX7_brookHeld (wsX1_brookUnder) := ggX7_brookHeld_X1_brookUnder
theorem dX7_brookHeld_0 : decode cX7_brookHeld 0 = .ok (.aload_n 0, 1) := by decide +kernel
theorem dX7_brookHeld_1 : decode cX7_brookHeld 1 = .ok (.getfield 26, 3) := by decide +kernel
theorem dX7_brookHeld_4 : decode cX7_brookHeld 4 = .ok (.aload_n 0, 1) := by decide +kernel
theorem dX7_brookHeld_5 : decode cX7_brookHeld 5 = .ok (.getfield 19, 3) := by decide +kernel
theorem dX7_brookHeld_8 : decode cX7_brookHeld 8 = .ok (.iload_n 1, 1) := by decide +kernel
theorem dX7_brookHeld_9 : decode cX7_brookHeld 9 = .ok (.iconst 1, 1) := by decide +kernel
theorem dX7_brookHeld_10 : decode cX7_brookHeld 10 = .ok (.iload_n 2, 1) := by decide +kernel
theorem dX7_brookHeld_11 : decode cX7_brookHeld 11 = .ok (.ishl, 1) := by decide +kernel
theorem dX7_brookHeld_12 : decode cX7_brookHeld 12 = .ok (.iconst 1, 1) := by decide +kernel
theorem dX7_brookHeld_13 : decode cX7_brookHeld 13 = .ok (.ishr, 1) := by decide +kernel
theorem dX7_brookHeld_14 : decode cX7_brookHeld 14 = .ok (.iconst 1, 1) := by decide +kernel
theorem dX7_brookHeld_15 : decode cX7_brookHeld 15 = .ok (.iload_n 3, 1) := by decide +kernel
theorem dX7_brookHeld_16 : decode cX7_brookHeld 16 = .ok (.ishl, 1) := by decide +kernel
theorem dX7_brookHeld_17 : decode cX7_brookHeld 17 = .ok (.iconst 1, 1) := by decide +kernel
theorem dX7_brookHeld_18 : decode cX7_brookHeld 18 = .ok (.ishr, 1) := by decide +kernel
theorem dX7_brookHeld_19 : decode cX7_brookHeld 19 = .ok (.ior, 1) := by decide +kernel
theorem dX7_brookHeld_20 : decode cX7_brookHeld 20 = .ok (.iconst 0, 1) := by decide +kernel
theorem dX7_brookHeld_21 : decode cX7_brookHeld 21 = .ok (.invokevirtual 172, 3) := by decide +kernel
theorem dX7_brookHeld_24 : decode cX7_brookHeld 24 = .ok (.ireturn, 1) := by decide +kernel
set_option maxRecDepth 20000 in
theorem ggX7_isAtRest_X7_brookHeld : GoodIn wsX7_isAtRest wsX7_brookHeld := goodIn_r _ [6, 7, 1, 8, 9, 10, 11, 12, 13, 14, 15, 16, 17, 18, 5, 19, 20, 21, 22, 23, 24, 25, 26, 27, 28, 29, 30, 31, 32, 33, 34, 35, 36, 42, 43, 44, 45, 46, 47, 48, 49, 50, 62, 63, 64, 65, 51, 52, 53, 54, 55, 56, 57, 58, 59, 60, 61] (by decide +kernel) (by decide +kernel)
set_option maxRecDepth 20000 in
theorem gX7_isAtRest_X7_brookHeld : GoodIn wsX7_isAtRest (wsV RX7 263 RX7 yX7_brookHeld wsX7_brookHeld) := goodIn_app (goodIn_of _ (by decide +kernel)) ggX7_isAtRest_X7_brookHeld
set_option maxRecDepth 20000 in
theorem ggX7_isAtRest_X7_mayHold : GoodIn wsX7_isAtRest wsX7_mayHold := goodIn_r _ [40, 1, 41, 29, 5, 30, 42, 43, 44, 45, 46, 47, 48, 49, 50, 51, 52, 53, 54, 55, 56, 57, 58, 59, 60, 61] (by decide +kernel) (by decide +kernel)
set_option maxRecDepth 20000 in
theorem gX7_isAtRest_X7_mayHold : GoodIn wsX7_isAtRest (wsV RX7 224 RX7 yX7_mayHold wsX7_mayHold) := goodIn_app (goodIn_of _ (by decide +kernel)) ggX7_isAtRest_X7_mayHold
theorem dX7_isAtRest_0 : decode cX7_isAtRest 0 = .ok (.aload_n 0, 1) := by decide +kernel
theorem dX7_isAtRest_1 : decode cX7_isAtRest 1 = .ok (.iload_n 1, 1) := by decide +kernel
theorem dX7_isAtRest_2 : decode cX7_isAtRest 2 = .ok (.iload_n 2, 1) := by decide +kernel
theorem dX7_isAtRest_3 : decode cX7_isAtRest 3 = .ok (.iload_n 3, 1) := by decide +kernel
theorem dX7_isAtRest_4 : decode cX7_isAtRest 4 = .ok (.invokevirtual 263, 3) := by decide +kernel
theorem dX7_isAtRest_7 : decode cX7_isAtRest 7 = .ok (.istore 4, 2) := by decide +kernel
theorem dX7_isAtRest_9 : decode cX7_isAtRest 9 = .ok (.iconst 0, 1) := by decide +kernel
theorem dX7_isAtRest_10 : decode cX7_isAtRest 10 = .ok (.istore 5, 2) := by decide +kernel
theorem dX7_isAtRest_12 : decode cX7_isAtRest 12 = .ok (.iload 5, 2) := by decide +kernel
theorem dX7_isAtRest_14 : decode cX7_isAtRest 14 = .ok (.aload_n 0, 1) := by decide +kernel
theorem dX7_isAtRest_15 : decode cX7_isAtRest 15 = .ok (.getfield 19, 3) := by decide +kernel
theorem dX7_isAtRest_18 : decode cX7_isAtRest 18 = .ok (.getfield 92, 3) := by decide +kernel
theorem dX7_isAtRest_21 : decode cX7_isAtRest 21 = .ok (.if_icmp .gt 67, 3) := by decide +kernel
theorem dX7_isAtRest_24 : decode cX7_isAtRest 24 = .ok (.iload 4, 2) := by decide +kernel
theorem dX7_isAtRest_26 : decode cX7_isAtRest 26 = .ok (.iconst 1, 1) := by decide +kernel
theorem dX7_isAtRest_27 : decode cX7_isAtRest 27 = .ok (.if_icmp .ne 26, 3) := by decide +kernel
theorem dX7_isAtRest_30 : decode cX7_isAtRest 30 = .ok (.aload_n 0, 1) := by decide +kernel
theorem dX7_isAtRest_31 : decode cX7_isAtRest 31 = .ok (.iconst 0, 1) := by decide +kernel
theorem dX7_isAtRest_32 : decode cX7_isAtRest 32 = .ok (.iload 5, 2) := by decide +kernel
theorem dX7_isAtRest_34 : decode cX7_isAtRest 34 = .ok (.invokevirtual 224, 3) := by decide +kernel
theorem dX7_isAtRest_37 : decode cX7_isAtRest 37 = .ok (.ifCond .eq 16, 3) := by decide +kernel
theorem dX7_isAtRest_40 : decode cX7_isAtRest 40 = .ok (.aload_n 0, 1) := by decide +kernel
theorem dX7_isAtRest_41 : decode cX7_isAtRest 41 = .ok (.iload_n 1, 1) := by decide +kernel
theorem dX7_isAtRest_42 : decode cX7_isAtRest 42 = .ok (.iload 5, 2) := by decide +kernel
theorem dX7_isAtRest_44 : decode cX7_isAtRest 44 = .ok (.iload_n 3, 1) := by decide +kernel
theorem dX7_isAtRest_45 : decode cX7_isAtRest 45 = .ok (.invokevirtual 263, 3) := by decide +kernel
theorem dX7_isAtRest_48 : decode cX7_isAtRest 48 = .ok (.ifCond .ne 5, 3) := by decide +kernel
theorem dX7_isAtRest_51 : decode cX7_isAtRest 51 = .ok (.iconst 0, 1) := by decide +kernel
theorem dX7_isAtRest_52 : decode cX7_isAtRest 52 = .ok (.ireturn, 1) := by decide +kernel
theorem dX7_isAtRest_53 : decode cX7_isAtRest 53 = .ok (.iload 4, 2) := by decide +kernel
theorem dX7_isAtRest_55 : decode cX7_isAtRest 55 = .ok (.ifCond .ne 27, 3) := by decide +kernel
theorem dX7_isAtRest_58 : decode cX7_isAtRest 58 = .ok (.aload_n 0, 1) := by decide +kernel
theorem dX7_isAtRest_59 : decode cX7_isAtRest 59 = .ok (.iconst 1, 1) := by decide +kernel
theorem dX7_isAtRest_60 : decode cX7_isAtRest 60 = .ok (.iload 5, 2) := by decide +kernel
theorem dX7_isAtRest_62 : decode cX7_isAtRest 62 = .ok (.invokevirtual 224, 3) := by decide +kernel
theorem dX7_isAtRest_65 : decode cX7_isAtRest 65 = .ok (.ifCond .eq 17, 3) := by decide +kernel
theorem dX7_isAtRest_68 : decode cX7_isAtRest 68 = .ok (.aload_n 0, 1) := by decide +kernel
theorem dX7_isAtRest_69 : decode cX7_isAtRest 69 = .ok (.iload_n 1, 1) := by decide +kernel
theorem dX7_isAtRest_70 : decode cX7_isAtRest 70 = .ok (.iload_n 2, 1) := by decide +kernel
theorem dX7_isAtRest_71 : decode cX7_isAtRest 71 = .ok (.iload 5, 2) := by decide +kernel
theorem dX7_isAtRest_73 : decode cX7_isAtRest 73 = .ok (.invokevirtual 263, 3) := by decide +kernel
theorem dX7_isAtRest_76 : decode cX7_isAtRest 76 = .ok (.iconst 1, 1) := by decide +kernel
theorem dX7_isAtRest_77 : decode cX7_isAtRest 77 = .ok (.if_icmp .ne 5, 3) := by decide +kernel
theorem dX7_isAtRest_80 : decode cX7_isAtRest 80 = .ok (.iconst 0, 1) := by decide +kernel
theorem dX7_isAtRest_81 : decode cX7_isAtRest 81 = .ok (.ireturn, 1) := by decide +kernel
theorem dX7_isAtRest_82 : decode cX7_isAtRest 82 = .ok (.iinc 5 1, 3) := by decide +kernel
theorem dX7_isAtRest_85 : decode cX7_isAtRest 85 = .ok (.goto (-73), 3) := by decide +kernel
theorem dX7_isAtRest_88 : decode cX7_isAtRest 88 = .ok (.iconst 1, 1) := by decide +kernel
theorem dX7_isAtRest_89 : decode cX7_isAtRest 89 = .ok (.ireturn, 1) := by decide +kernel
set_option maxRecDepth 20000 in
theorem ggX7_waysToFreeze_X7_bit : GoodIn wsX7_waysToFreeze wsX7_bit := goodIn_r _ [5] (by decide +kernel) (by decide +kernel)
set_option maxRecDepth 20000 in
theorem gX7_waysToFreeze_X7_bit : GoodIn wsX7_waysToFreeze (va_wsS RX7 119 yX7_bit wsX7_bit) := goodIn_app (goodIn_of _ (by decide +kernel)) ggX7_waysToFreeze_X7_bit
theorem dX7_waysToFreeze_0 : decode cX7_waysToFreeze 0 = .ok (.iconst 1, 1) := by decide +kernel
theorem dX7_waysToFreeze_1 : decode cX7_waysToFreeze 1 = .ok (.istore_n 3, 1) := by decide +kernel
theorem dX7_waysToFreeze_2 : decode cX7_waysToFreeze 2 = .ok (.iconst 0, 1) := by decide +kernel
theorem dX7_waysToFreeze_3 : decode cX7_waysToFreeze 3 = .ok (.istore 4, 2) := by decide +kernel
theorem dX7_waysToFreeze_5 : decode cX7_waysToFreeze 5 = .ok (.iload 4, 2) := by decide +kernel
theorem dX7_waysToFreeze_7 : decode cX7_waysToFreeze 7 = .ok (.aload_n 0, 1) := by decide +kernel
theorem dX7_waysToFreeze_8 : decode cX7_waysToFreeze 8 = .ok (.getfield 19, 3) := by decide +kernel
theorem dX7_waysToFreeze_11 : decode cX7_waysToFreeze 11 = .ok (.getfield 92, 3) := by decide +kernel
theorem dX7_waysToFreeze_14 : decode cX7_waysToFreeze 14 = .ok (.if_icmp .ge 30, 3) := by decide +kernel
theorem dX7_waysToFreeze_17 : decode cX7_waysToFreeze 17 = .ok (.iload_n 3, 1) := by decide +kernel
theorem dX7_waysToFreeze_18 : decode cX7_waysToFreeze 18 = .ok (.iload_n 1, 1) := by decide +kernel
theorem dX7_waysToFreeze_19 : decode cX7_waysToFreeze 19 = .ok (.iload 4, 2) := by decide +kernel
theorem dX7_waysToFreeze_21 : decode cX7_waysToFreeze 21 = .ok (.invokestatic 119, 3) := by decide +kernel
theorem dX7_waysToFreeze_24 : decode cX7_waysToFreeze 24 = .ok (.iconst 1, 1) := by decide +kernel
theorem dX7_waysToFreeze_25 : decode cX7_waysToFreeze 25 = .ok (.if_icmp .ne 7, 3) := by decide +kernel
theorem dX7_waysToFreeze_28 : decode cX7_waysToFreeze 28 = .ok (.iload_n 2, 1) := by decide +kernel
theorem dX7_waysToFreeze_29 : decode cX7_waysToFreeze 29 = .ok (.goto 7, 3) := by decide +kernel
theorem dX7_waysToFreeze_32 : decode cX7_waysToFreeze 32 = .ok (.bipush 10, 2) := by decide +kernel
theorem dX7_waysToFreeze_34 : decode cX7_waysToFreeze 34 = .ok (.iload_n 2, 1) := by decide +kernel
theorem dX7_waysToFreeze_35 : decode cX7_waysToFreeze 35 = .ok (.isub, 1) := by decide +kernel
theorem dX7_waysToFreeze_36 : decode cX7_waysToFreeze 36 = .ok (.imul, 1) := by decide +kernel
theorem dX7_waysToFreeze_37 : decode cX7_waysToFreeze 37 = .ok (.istore_n 3, 1) := by decide +kernel
theorem dX7_waysToFreeze_38 : decode cX7_waysToFreeze 38 = .ok (.iinc 4 1, 3) := by decide +kernel
theorem dX7_waysToFreeze_41 : decode cX7_waysToFreeze 41 = .ok (.goto (-36), 3) := by decide +kernel
theorem dX7_waysToFreeze_44 : decode cX7_waysToFreeze 44 = .ok (.iload_n 3, 1) := by decide +kernel
theorem dX7_waysToFreeze_45 : decode cX7_waysToFreeze 45 = .ok (.ireturn, 1) := by decide +kernel
theorem dX7_commonDivisor_0 : decode cX7_commonDivisor 0 = .ok (.iload_n 0, 1) := by decide +kernel
theorem dX7_commonDivisor_1 : decode cX7_commonDivisor 1 = .ok (.istore_n 2, 1) := by decide +kernel
theorem dX7_commonDivisor_2 : decode cX7_commonDivisor 2 = .ok (.iload_n 1, 1) := by decide +kernel
theorem dX7_commonDivisor_3 : decode cX7_commonDivisor 3 = .ok (.istore_n 3, 1) := by decide +kernel
theorem dX7_commonDivisor_4 : decode cX7_commonDivisor 4 = .ok (.iconst 0, 1) := by decide +kernel
theorem dX7_commonDivisor_5 : decode cX7_commonDivisor 5 = .ok (.istore 4, 2) := by decide +kernel
theorem dX7_commonDivisor_7 : decode cX7_commonDivisor 7 = .ok (.iload 4, 2) := by decide +kernel
theorem dX7_commonDivisor_9 : decode cX7_commonDivisor 9 = .ok (.bipush 64, 2) := by decide +kernel
theorem dX7_commonDivisor_11 : decode cX7_commonDivisor 11 = .ok (.if_icmp .ge 23, 3) := by decide +kernel
theorem dX7_commonDivisor_14 : decode cX7_commonDivisor 14 = .ok (.iload_n 3, 1) := by decide +kernel
theorem dX7_commonDivisor_15 : decode cX7_commonDivisor 15 = .ok (.ifCond .eq 19, 3) := by decide +kernel
theorem dX7_commonDivisor_18 : decode cX7_commonDivisor 18 = .ok (.iload_n 2, 1) := by decide +kernel
theorem dX7_commonDivisor_19 : decode cX7_commonDivisor 19 = .ok (.iload_n 3, 1) := by decide +kernel
theorem dX7_commonDivisor_20 : decode cX7_commonDivisor 20 = .ok (.irem, 1) := by decide +kernel
theorem dX7_commonDivisor_21 : decode cX7_commonDivisor 21 = .ok (.istore 5, 2) := by decide +kernel
theorem dX7_commonDivisor_23 : decode cX7_commonDivisor 23 = .ok (.iload_n 3, 1) := by decide +kernel
theorem dX7_commonDivisor_24 : decode cX7_commonDivisor 24 = .ok (.istore_n 2, 1) := by decide +kernel
theorem dX7_commonDivisor_25 : decode cX7_commonDivisor 25 = .ok (.iload 5, 2) := by decide +kernel
theorem dX7_commonDivisor_27 : decode cX7_commonDivisor 27 = .ok (.istore_n 3, 1) := by decide +kernel
theorem dX7_commonDivisor_28 : decode cX7_commonDivisor 28 = .ok (.iinc 4 1, 3) := by decide +kernel
theorem dX7_commonDivisor_31 : decode cX7_commonDivisor 31 = .ok (.goto (-24), 3) := by decide +kernel
theorem dX7_commonDivisor_34 : decode cX7_commonDivisor 34 = .ok (.iload_n 2, 1) := by decide +kernel
theorem dX7_commonDivisor_35 : decode cX7_commonDivisor 35 = .ok (.ireturn, 1) := by decide +kernel
theorem dX7_cutFigures_0 : decode cX7_cutFigures 0 = .ok (.iload_n 0, 1) := by decide +kernel
theorem dX7_cutFigures_1 : decode cX7_cutFigures 1 = .ok (.istore_n 2, 1) := by decide +kernel
theorem dX7_cutFigures_2 : decode cX7_cutFigures 2 = .ok (.iconst 0, 1) := by decide +kernel
theorem dX7_cutFigures_3 : decode cX7_cutFigures 3 = .ok (.istore_n 3, 1) := by decide +kernel
theorem dX7_cutFigures_4 : decode cX7_cutFigures 4 = .ok (.iload_n 3, 1) := by decide +kernel
theorem dX7_cutFigures_5 : decode cX7_cutFigures 5 = .ok (.iload_n 1, 1) := by decide +kernel
theorem dX7_cutFigures_6 : decode cX7_cutFigures 6 = .ok (.if_icmp .ge 14, 3) := by decide +kernel
theorem dX7_cutFigures_9 : decode cX7_cutFigures 9 = .ok (.iload_n 2, 1) := by decide +kernel
theorem dX7_cutFigures_10 : decode cX7_cutFigures 10 = .ok (.bipush 10, 2) := by decide +kernel
theorem dX7_cutFigures_12 : decode cX7_cutFigures 12 = .ok (.idiv, 1) := by decide +kernel
theorem dX7_cutFigures_13 : decode cX7_cutFigures 13 = .ok (.istore_n 2, 1) := by decide +kernel
theorem dX7_cutFigures_14 : decode cX7_cutFigures 14 = .ok (.iinc 3 1, 3) := by decide +kernel
theorem dX7_cutFigures_17 : decode cX7_cutFigures 17 = .ok (.goto (-13), 3) := by decide +kernel
theorem dX7_cutFigures_20 : decode cX7_cutFigures 20 = .ok (.iload_n 2, 1) := by decide +kernel
theorem dX7_cutFigures_21 : decode cX7_cutFigures 21 = .ok (.ireturn, 1) := by decide +kernel
theorem dX7_isCell_0 : decode cX7_isCell 0 = .ok (.iload_n 0, 1) := by decide +kernel
theorem dX7_isCell_1 : decode cX7_isCell 1 = .ok (.ifCond .lt 13, 3) := by decide +kernel
theorem dX7_isCell_4 : decode cX7_isCell 4 = .ok (.iload_n 0, 1) := by decide +kernel
theorem dX7_isCell_5 : decode cX7_isCell 5 = .ok (.bipush 10, 2) := by decide +kernel
theorem dX7_isCell_7 : decode cX7_isCell 7 = .ok (.if_icmp .ge 7, 3) := by decide +kernel
theorem dX7_isCell_10 : decode cX7_isCell 10 = .ok (.iconst 1, 1) := by decide +kernel
theorem dX7_isCell_11 : decode cX7_isCell 11 = .ok (.goto 4, 3) := by decide +kernel
theorem dX7_isCell_14 : decode cX7_isCell 14 = .ok (.iconst 0, 1) := by decide +kernel
theorem dX7_isCell_15 : decode cX7_isCell 15 = .ok (.ireturn, 1) := by decide +kernel
theorem dX7_isParish_0 : decode cX7_isParish 0 = .ok (.iload_n 0, 1) := by decide +kernel
theorem dX7_isParish_1 : decode cX7_isParish 1 = .ok (.ifCond .eq 8, 3) := by decide +kernel
theorem dX7_isParish_4 : decode cX7_isParish 4 = .ok (.iload_n 0, 1) := by decide +kernel
theorem dX7_isParish_5 : decode cX7_isParish 5 = .ok (.iconst 1, 1) := by decide +kernel
theorem dX7_isParish_6 : decode cX7_isParish 6 = .ok (.if_icmp .ne 7, 3) := by decide +kernel
theorem dX7_isParish_9 : decode cX7_isParish 9 = .ok (.iconst 1, 1) := by decide +kernel
theorem dX7_isParish_10 : decode cX7_isParish 10 = .ok (.goto 4, 3) := by decide +kernel
theorem dX7_isParish_13 : decode cX7_isParish 13 = .ok (.iconst 0, 1) := by decide +kernel
theorem dX7_isParish_14 : decode cX7_isParish 14 = .ok (.ireturn, 1) := by decide +kernel
theorem dX7_bit_0 : decode cX7_bit 0 = .ok (.iload_n 0, 1) := by decide +kernel
theorem dX7_bit_1 : decode cX7_bit 1 = .ok (.iload_n 1, 1) := by decide +kernel
theorem dX7_bit_2 : decode cX7_bit 2 = .ok (.ishr, 1) := by decide +kernel
theorem dX7_bit_3 : decode cX7_bit 3 = .ok (.iconst 1, 1) := by decide +kernel
theorem dX7_bit_4 : decode cX7_bit 4 = .ok (.iand, 1) := by decide +kernel
theorem dX7_bit_5 : decode cX7_bit 5 = .ok (.ireturn, 1) := by decide +kernel
theorem dX7_at_0 : decode cX7_at 0 = .ok (.iload_n 1, 1) := by decide +kernel
theorem dX7_at_1 : decode cX7_at 1 = .ok (.ifCond .lt 15, 3) := by decide +kernel
theorem dX7_at_4 : decode cX7_at 4 = .ok (.iload_n 1, 1) := by decide +kernel
theorem dX7_at_5 : decode cX7_at 5 = .ok (.aload_n 0, 1) := by decide +kernel
theorem dX7_at_6 : decode cX7_at 6 = .ok (.arraylength, 1) := by decide +kernel
theorem dX7_at_7 : decode cX7_at 7 = .ok (.if_icmp .ge 9, 3) := by decide +kernel
theorem dX7_at_10 : decode cX7_at 10 = .ok (.aload_n 0, 1) := by decide +kernel
theorem dX7_at_11 : decode cX7_at 11 = .ok (.iload_n 1, 1) := by decide +kernel
theorem dX7_at_12 : decode cX7_at 12 = .ok (.iaload, 1) := by decide +kernel
theorem dX7_at_13 : decode cX7_at 13 = .ok (.goto 4, 3) := by decide +kernel
theorem dX7_at_16 : decode cX7_at 16 = .ok (.iconst 0, 1) := by decide +kernel
theorem dX7_at_17 : decode cX7_at 17 = .ok (.ireturn, 1) := by decide +kernel
theorem dX7_put_0 : decode cX7_put 0 = .ok (.iload_n 1, 1) := by decide +kernel
theorem dX7_put_1 : decode cX7_put 1 = .ok (.ifCond .lt 13, 3) := by decide +kernel
theorem dX7_put_4 : decode cX7_put 4 = .ok (.iload_n 1, 1) := by decide +kernel
theorem dX7_put_5 : decode cX7_put 5 = .ok (.aload_n 0, 1) := by decide +kernel
theorem dX7_put_6 : decode cX7_put 6 = .ok (.arraylength, 1) := by decide +kernel
theorem dX7_put_7 : decode cX7_put 7 = .ok (.if_icmp .ge 7, 3) := by decide +kernel
theorem dX7_put_10 : decode cX7_put 10 = .ok (.aload_n 0, 1) := by decide +kernel
theorem dX7_put_11 : decode cX7_put 11 = .ok (.iload_n 1, 1) := by decide +kernel
theorem dX7_put_12 : decode cX7_put 12 = .ok (.iload_n 2, 1) := by decide +kernel
theorem dX7_put_13 : decode cX7_put 13 = .ok (.iastore, 1) := by decide +kernel
theorem dX7_put_14 : decode cX7_put 14 = .ok (.return_, 1) := by decide +kernel
theorem dX7_copyRow_0 : decode cX7_copyRow 0 = .ok (.iconst 0, 1) := by decide +kernel
theorem dX7_copyRow_1 : decode cX7_copyRow 1 = .ok (.istore_n 2, 1) := by decide +kernel
theorem dX7_copyRow_2 : decode cX7_copyRow 2 = .ok (.iload_n 2, 1) := by decide +kernel
theorem dX7_copyRow_3 : decode cX7_copyRow 3 = .ok (.aload_n 0, 1) := by decide +kernel
theorem dX7_copyRow_4 : decode cX7_copyRow 4 = .ok (.arraylength, 1) := by decide +kernel
theorem dX7_copyRow_5 : decode cX7_copyRow 5 = .ok (.if_icmp .ge 21, 3) := by decide +kernel
theorem dX7_copyRow_8 : decode cX7_copyRow 8 = .ok (.iload_n 2, 1) := by decide +kernel
theorem dX7_copyRow_9 : decode cX7_copyRow 9 = .ok (.aload_n 1, 1) := by decide +kernel
theorem dX7_copyRow_10 : decode cX7_copyRow 10 = .ok (.arraylength, 1) := by decide +kernel
theorem dX7_copyRow_11 : decode cX7_copyRow 11 = .ok (.if_icmp .ge 15, 3) := by decide +kernel
theorem dX7_copyRow_14 : decode cX7_copyRow 14 = .ok (.aload_n 1, 1) := by decide +kernel
theorem dX7_copyRow_15 : decode cX7_copyRow 15 = .ok (.iload_n 2, 1) := by decide +kernel
theorem dX7_copyRow_16 : decode cX7_copyRow 16 = .ok (.aload_n 0, 1) := by decide +kernel
theorem dX7_copyRow_17 : decode cX7_copyRow 17 = .ok (.iload_n 2, 1) := by decide +kernel
theorem dX7_copyRow_18 : decode cX7_copyRow 18 = .ok (.iaload, 1) := by decide +kernel
theorem dX7_copyRow_19 : decode cX7_copyRow 19 = .ok (.iastore, 1) := by decide +kernel
theorem dX7_copyRow_20 : decode cX7_copyRow 20 = .ok (.iinc 2 1, 3) := by decide +kernel
theorem dX7_copyRow_23 : decode cX7_copyRow 23 = .ok (.goto (-21), 3) := by decide +kernel
theorem dX7_copyRow_26 : decode cX7_copyRow 26 = .ok (.return_, 1) := by decide +kernel
theorem dX8_init_0 : decode cX8_init 0 = .ok (.aload_n 0, 1) := by decide +kernel
theorem dX8_init_1 : decode cX8_init 1 = .ok (.invokespecial 1, 3) := by decide +kernel
theorem dX8_init_4 : decode cX8_init 4 = .ok (.aload_n 0, 1) := by decide +kernel
theorem dX8_init_5 : decode cX8_init 5 = .ok (.bipush 6, 2) := by decide +kernel
theorem dX8_init_7 : decode cX8_init 7 = .ok (.newarray .int, 2) := by decide +kernel
theorem dX8_init_9 : decode cX8_init 9 = .ok (.putfield 7, 3) := by decide +kernel
theorem dX8_init_12 : decode cX8_init 12 = .ok (.aload_n 0, 1) := by decide +kernel
theorem dX8_init_13 : decode cX8_init 13 = .ok (.bipush 6, 2) := by decide +kernel
theorem dX8_init_15 : decode cX8_init 15 = .ok (.newarray .int, 2) := by decide +kernel
theorem dX8_init_17 : decode cX8_init 17 = .ok (.putfield 13, 3) := by decide +kernel
