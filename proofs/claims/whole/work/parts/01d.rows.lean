theorem dX4_firstFault_71 : decode cX4_firstFault 71 = .ok (.if_icmp .ge 31, 3) := by decide +kernel
theorem dX4_firstFault_74 : decode cX4_firstFault 74 = .ok (.aload_n 0, 1) := by decide +kernel
theorem dX4_firstFault_75 : decode cX4_firstFault 75 = .ok (.getfield 50, 3) := by decide +kernel
theorem dX4_firstFault_78 : decode cX4_firstFault 78 = .ok (.ifCond .ne 24, 3) := by decide +kernel
theorem dX4_firstFault_81 : decode cX4_firstFault 81 = .ok (.aload_n 0, 1) := by decide +kernel
theorem dX4_firstFault_82 : decode cX4_firstFault 82 = .ok (.getfield 43, 3) := by decide +kernel
theorem dX4_firstFault_85 : decode cX4_firstFault 85 = .ok (.aload_n 0, 1) := by decide +kernel
theorem dX4_firstFault_86 : decode cX4_firstFault 86 = .ok (.getfield 29, 3) := by decide +kernel
theorem dX4_firstFault_89 : decode cX4_firstFault 89 = .ok (.if_icmp .ge 13, 3) := by decide +kernel
theorem dX4_firstFault_92 : decode cX4_firstFault 92 = .ok (.aload_n 0, 1) := by decide +kernel
theorem dX4_firstFault_93 : decode cX4_firstFault 93 = .ok (.invokevirtual 54, 3) := by decide +kernel
theorem dX4_firstFault_96 : decode cX4_firstFault 96 = .ok (.iinc 1 1, 3) := by decide +kernel
theorem dX4_firstFault_99 : decode cX4_firstFault 99 = .ok (.goto (-31), 3) := by decide +kernel
theorem dX4_firstFault_102 : decode cX4_firstFault 102 = .ok (.aload_n 0, 1) := by decide +kernel
theorem dX4_firstFault_103 : decode cX4_firstFault 103 = .ok (.getfield 50, 3) := by decide +kernel
theorem dX4_firstFault_106 : decode cX4_firstFault 106 = .ok (.ifCond .eq 10, 3) := by decide +kernel
theorem dX4_firstFault_109 : decode cX4_firstFault 109 = .ok (.aload_n 0, 1) := by decide +kernel
theorem dX4_firstFault_110 : decode cX4_firstFault 110 = .ok (.getfield 43, 3) := by decide +kernel
theorem dX4_firstFault_113 : decode cX4_firstFault 113 = .ok (.goto 5, 3) := by decide +kernel
theorem dX4_firstFault_116 : decode cX4_firstFault 116 = .ok (.bipush (-9), 2) := by decide +kernel
theorem dX4_firstFault_118 : decode cX4_firstFault 118 = .ok (.ireturn, 1) := by decide +kernel
set_option maxRecDepth 20000 in
theorem ggX4_readPart_X7_at : GoodIn wsX4_readPart wsX7_at := goodIn_r _ [8] (by decide +kernel) (by decide +kernel)
set_option maxRecDepth 20000 in
theorem gX4_readPart_X7_at_n46 : GoodIn wsX4_readPart (wsX7_at) := ggX4_readPart_X7_at
set_option maxRecDepth 20000 in
theorem ggX4_readPart_X2_treeCells : GoodIn wsX4_readPart wsX2_treeCells := goodIn_r _ [12, 13, 63, 64, 65, 66, 67, 68, 69, 70, 71, 72, 73] (by decide +kernel) (by decide +kernel)
set_option maxRecDepth 20000 in
theorem gX4_readPart_X2_treeCells_n57 : GoodIn wsX4_readPart (wsX2_treeCells) := ggX4_readPart_X2_treeCells
set_option maxRecDepth 20000 in
theorem ggX4_readPart_X4_readTree : GoodIn wsX4_readPart wsX4_readTree := goodIn_r _ [18, 5, 3, 19, 20, 21, 17, 22, 1, 2, 23, 6, 7, 8, 24, 25, 26, 27, 57, 58, 59, 60, 61, 62, 63, 64, 65, 66, 67, 68, 69, 70, 71, 72, 73] (by decide +kernel) (by decide +kernel)
set_option maxRecDepth 20000 in
theorem gX4_readPart_X4_readTree : GoodIn wsX4_readPart (wsV RX4 61 RX4 yX4_readTree wsX4_readTree) := goodIn_app (goodIn_of _ (by decide +kernel)) ggX4_readPart_X4_readTree
set_option maxRecDepth 20000 in
theorem ggX4_readPart_X4_readCock : GoodIn wsX4_readPart wsX4_readCock := goodIn_r _ [31, 3, 5, 32, 10, 33, 34, 35, 36, 6, 7, 8, 19, 20, 21, 17, 22, 1, 2, 23, 24, 25, 37, 38, 39, 40, 41, 42, 43, 44, 26, 27, 57, 58, 59, 60, 61, 62, 63, 64, 65, 66, 67, 68, 69, 70, 71, 72, 73] (by decide +kernel) (by decide +kernel)
set_option maxRecDepth 20000 in
theorem gX4_readPart_X4_readCock : GoodIn wsX4_readPart (wsV RX4 68 RX4 yX4_readCock wsX4_readCock) := goodIn_app (goodIn_of _ (by decide +kernel)) ggX4_readPart_X4_readCock
set_option maxRecDepth 20000 in
theorem ggX4_readPart_X4_readWind : GoodIn wsX4_readPart wsX4_readWind := goodIn_r _ [48, 5, 4, 19, 20, 21, 17, 22, 1, 2, 23, 6, 7, 8, 24, 25, 49, 50, 51, 52, 53, 54, 55, 56, 26, 27, 57, 58, 59, 60, 61, 62, 74, 75, 76, 77] (by decide +kernel) (by decide +kernel)
set_option maxRecDepth 20000 in
theorem gX4_readPart_X4_readWind : GoodIn wsX4_readPart (wsV RX4 71 RX4 yX4_readWind wsX4_readWind) := goodIn_app (goodIn_of _ (by decide +kernel)) ggX4_readPart_X4_readWind
theorem dX4_readPart_0 : decode cX4_readPart 0 = .ok (.aload_n 0, 1) := by decide +kernel
theorem dX4_readPart_1 : decode cX4_readPart 1 = .ok (.getfield 9, 3) := by decide +kernel
theorem dX4_readPart_4 : decode cX4_readPart 4 = .ok (.aload_n 0, 1) := by decide +kernel
theorem dX4_readPart_5 : decode cX4_readPart 5 = .ok (.getfield 43, 3) := by decide +kernel
theorem dX4_readPart_8 : decode cX4_readPart 8 = .ok (.invokestatic 46, 3) := by decide +kernel
theorem dX4_readPart_11 : decode cX4_readPart 11 = .ok (.istore_n 1, 1) := by decide +kernel
theorem dX4_readPart_12 : decode cX4_readPart 12 = .ok (.sipush 1023, 3) := by decide +kernel
theorem dX4_readPart_15 : decode cX4_readPart 15 = .ok (.aload_n 0, 1) := by decide +kernel
theorem dX4_readPart_16 : decode cX4_readPart 16 = .ok (.getfield 18, 3) := by decide +kernel
theorem dX4_readPart_19 : decode cX4_readPart 19 = .ok (.invokevirtual 57, 3) := by decide +kernel
theorem dX4_readPart_22 : decode cX4_readPart 22 = .ok (.iconst (-1), 1) := by decide +kernel
theorem dX4_readPart_23 : decode cX4_readPart 23 = .ok (.ixor, 1) := by decide +kernel
theorem dX4_readPart_24 : decode cX4_readPart 24 = .ok (.iand, 1) := by decide +kernel
theorem dX4_readPart_25 : decode cX4_readPart 25 = .ok (.istore_n 2, 1) := by decide +kernel
theorem dX4_readPart_26 : decode cX4_readPart 26 = .ok (.iload_n 1, 1) := by decide +kernel
theorem dX4_readPart_27 : decode cX4_readPart 27 = .ok (.bipush 84, 2) := by decide +kernel
theorem dX4_readPart_29 : decode cX4_readPart 29 = .ok (.if_icmp .ne 25, 3) := by decide +kernel
theorem dX4_readPart_32 : decode cX4_readPart 32 = .ok (.iload_n 2, 1) := by decide +kernel
theorem dX4_readPart_33 : decode cX4_readPart 33 = .ok (.ifCond .eq 21, 3) := by decide +kernel
theorem dX4_readPart_36 : decode cX4_readPart 36 = .ok (.aload_n 0, 1) := by decide +kernel
theorem dX4_readPart_37 : decode cX4_readPart 37 = .ok (.dup, 1) := by decide +kernel
theorem dX4_readPart_38 : decode cX4_readPart 38 = .ok (.getfield 43, 3) := by decide +kernel
theorem dX4_readPart_41 : decode cX4_readPart 41 = .ok (.iconst 1, 1) := by decide +kernel
theorem dX4_readPart_42 : decode cX4_readPart 42 = .ok (.iadd, 1) := by decide +kernel
theorem dX4_readPart_43 : decode cX4_readPart 43 = .ok (.putfield 43, 3) := by decide +kernel
theorem dX4_readPart_46 : decode cX4_readPart 46 = .ok (.aload_n 0, 1) := by decide +kernel
theorem dX4_readPart_47 : decode cX4_readPart 47 = .ok (.iload_n 2, 1) := by decide +kernel
theorem dX4_readPart_48 : decode cX4_readPart 48 = .ok (.invokevirtual 61, 3) := by decide +kernel
theorem dX4_readPart_51 : decode cX4_readPart 51 = .ok (.goto 77, 3) := by decide +kernel
theorem dX4_readPart_54 : decode cX4_readPart 54 = .ok (.iload_n 1, 1) := by decide +kernel
theorem dX4_readPart_55 : decode cX4_readPart 55 = .ok (.bipush 67, 2) := by decide +kernel
theorem dX4_readPart_57 : decode cX4_readPart 57 = .ok (.if_icmp .ne 32, 3) := by decide +kernel
theorem dX4_readPart_60 : decode cX4_readPart 60 = .ok (.aload_n 0, 1) := by decide +kernel
theorem dX4_readPart_61 : decode cX4_readPart 61 = .ok (.getfield 18, 3) := by decide +kernel
theorem dX4_readPart_64 : decode cX4_readPart 64 = .ok (.getfield 65, 3) := by decide +kernel
theorem dX4_readPart_67 : decode cX4_readPart 67 = .ok (.bipush 6, 2) := by decide +kernel
theorem dX4_readPart_69 : decode cX4_readPart 69 = .ok (.if_icmp .ge 20, 3) := by decide +kernel
theorem dX4_readPart_72 : decode cX4_readPart 72 = .ok (.aload_n 0, 1) := by decide +kernel
theorem dX4_readPart_73 : decode cX4_readPart 73 = .ok (.dup, 1) := by decide +kernel
theorem dX4_readPart_74 : decode cX4_readPart 74 = .ok (.getfield 43, 3) := by decide +kernel
theorem dX4_readPart_77 : decode cX4_readPart 77 = .ok (.iconst 1, 1) := by decide +kernel
theorem dX4_readPart_78 : decode cX4_readPart 78 = .ok (.iadd, 1) := by decide +kernel
theorem dX4_readPart_79 : decode cX4_readPart 79 = .ok (.putfield 43, 3) := by decide +kernel
theorem dX4_readPart_82 : decode cX4_readPart 82 = .ok (.aload_n 0, 1) := by decide +kernel
theorem dX4_readPart_83 : decode cX4_readPart 83 = .ok (.invokevirtual 68, 3) := by decide +kernel
theorem dX4_readPart_86 : decode cX4_readPart 86 = .ok (.goto 42, 3) := by decide +kernel
theorem dX4_readPart_89 : decode cX4_readPart 89 = .ok (.iload_n 1, 1) := by decide +kernel
theorem dX4_readPart_90 : decode cX4_readPart 90 = .ok (.bipush 87, 2) := by decide +kernel
theorem dX4_readPart_92 : decode cX4_readPart 92 = .ok (.if_icmp .ne 31, 3) := by decide +kernel
theorem dX4_readPart_95 : decode cX4_readPart 95 = .ok (.aload_n 0, 1) := by decide +kernel
theorem dX4_readPart_96 : decode cX4_readPart 96 = .ok (.getfield 25, 3) := by decide +kernel
theorem dX4_readPart_99 : decode cX4_readPart 99 = .ok (.getfield 40, 3) := by decide +kernel
theorem dX4_readPart_102 : decode cX4_readPart 102 = .ok (.iconst 4, 1) := by decide +kernel
theorem dX4_readPart_103 : decode cX4_readPart 103 = .ok (.if_icmp .ge 20, 3) := by decide +kernel
theorem dX4_readPart_106 : decode cX4_readPart 106 = .ok (.aload_n 0, 1) := by decide +kernel
theorem dX4_readPart_107 : decode cX4_readPart 107 = .ok (.dup, 1) := by decide +kernel
theorem dX4_readPart_108 : decode cX4_readPart 108 = .ok (.getfield 43, 3) := by decide +kernel
theorem dX4_readPart_111 : decode cX4_readPart 111 = .ok (.iconst 1, 1) := by decide +kernel
theorem dX4_readPart_112 : decode cX4_readPart 112 = .ok (.iadd, 1) := by decide +kernel
theorem dX4_readPart_113 : decode cX4_readPart 113 = .ok (.putfield 43, 3) := by decide +kernel
theorem dX4_readPart_116 : decode cX4_readPart 116 = .ok (.aload_n 0, 1) := by decide +kernel
theorem dX4_readPart_117 : decode cX4_readPart 117 = .ok (.invokevirtual 71, 3) := by decide +kernel
theorem dX4_readPart_120 : decode cX4_readPart 120 = .ok (.goto 8, 3) := by decide +kernel
theorem dX4_readPart_123 : decode cX4_readPart 123 = .ok (.aload_n 0, 1) := by decide +kernel
theorem dX4_readPart_124 : decode cX4_readPart 124 = .ok (.iconst 1, 1) := by decide +kernel
theorem dX4_readPart_125 : decode cX4_readPart 125 = .ok (.putfield 50, 3) := by decide +kernel
theorem dX4_readPart_128 : decode cX4_readPart 128 = .ok (.return_, 1) := by decide +kernel
set_option maxRecDepth 20000 in
theorem ggX4_readTree_X4_figure : GoodIn wsX4_readTree wsX4_figure := goodIn_r _ [7, 8, 9, 1, 10, 11, 12, 13, 14, 15, 18, 19, 20, 21, 22, 23] (by decide +kernel) (by decide +kernel)
set_option maxRecDepth 20000 in
theorem gX4_readTree_X4_figure : GoodIn wsX4_readTree (wsV RX4 74 RX4 yX4_figure wsX4_figure) := goodIn_app (goodIn_of _ (by decide +kernel)) ggX4_readTree_X4_figure
set_option maxRecDepth 20000 in
theorem ggX4_readTree_X7_put : GoodIn wsX4_readTree wsX7_put := goodIn_r _ [17] (by decide +kernel) (by decide +kernel)
set_option maxRecDepth 20000 in
theorem gX4_readTree_X7_put_n33 : GoodIn wsX4_readTree (wsX7_put) := ggX4_readTree_X7_put
theorem dX4_readTree_0 : decode cX4_readTree 0 = .ok (.aload_n 0, 1) := by decide +kernel
theorem dX4_readTree_1 : decode cX4_readTree 1 = .ok (.iload_n 1, 1) := by decide +kernel
theorem dX4_readTree_2 : decode cX4_readTree 2 = .ok (.invokevirtual 74, 3) := by decide +kernel
theorem dX4_readTree_5 : decode cX4_readTree 5 = .ok (.istore_n 2, 1) := by decide +kernel
theorem dX4_readTree_6 : decode cX4_readTree 6 = .ok (.aload_n 0, 1) := by decide +kernel
theorem dX4_readTree_7 : decode cX4_readTree 7 = .ok (.bipush 14, 2) := by decide +kernel
theorem dX4_readTree_9 : decode cX4_readTree 9 = .ok (.invokevirtual 74, 3) := by decide +kernel
theorem dX4_readTree_12 : decode cX4_readTree 12 = .ok (.istore_n 3, 1) := by decide +kernel
theorem dX4_readTree_13 : decode cX4_readTree 13 = .ok (.aload_n 0, 1) := by decide +kernel
theorem dX4_readTree_14 : decode cX4_readTree 14 = .ok (.getfield 50, 3) := by decide +kernel
theorem dX4_readTree_17 : decode cX4_readTree 17 = .ok (.ifCond .ne 15, 3) := by decide +kernel
theorem dX4_readTree_20 : decode cX4_readTree 20 = .ok (.aload_n 0, 1) := by decide +kernel
theorem dX4_readTree_21 : decode cX4_readTree 21 = .ok (.getfield 18, 3) := by decide +kernel
theorem dX4_readTree_24 : decode cX4_readTree 24 = .ok (.getfield 78, 3) := by decide +kernel
theorem dX4_readTree_27 : decode cX4_readTree 27 = .ok (.iload_n 2, 1) := by decide +kernel
theorem dX4_readTree_28 : decode cX4_readTree 28 = .ok (.iload_n 3, 1) := by decide +kernel
theorem dX4_readTree_29 : decode cX4_readTree 29 = .ok (.invokestatic 33, 3) := by decide +kernel
theorem dX4_readTree_32 : decode cX4_readTree 32 = .ok (.return_, 1) := by decide +kernel
set_option maxRecDepth 20000 in
theorem ggX4_readCock_X2_takenCells : GoodIn wsX4_readCock wsX2_takenCells := goodIn_r _ [6, 7, 8, 9, 10, 11, 38, 39, 40, 41, 42, 43, 44, 45, 46, 47, 48] (by decide +kernel) (by decide +kernel)
set_option maxRecDepth 20000 in
theorem gX4_readCock_X2_takenCells_n81 : GoodIn wsX4_readCock (wsX2_takenCells) := ggX4_readCock_X2_takenCells
set_option maxRecDepth 20000 in
theorem ggX4_readCock_X4_figure : GoodIn wsX4_readCock wsX4_figure := goodIn_r _ [16, 17, 18, 2, 19, 9, 10, 11, 20, 21, 32, 33, 34, 35, 36, 37] (by decide +kernel) (by decide +kernel)
set_option maxRecDepth 20000 in
theorem gX4_readCock_X4_figure : GoodIn wsX4_readCock (wsV RX4 74 RX4 yX4_figure wsX4_figure) := goodIn_app (goodIn_of _ (by decide +kernel)) ggX4_readCock_X4_figure
set_option maxRecDepth 20000 in
theorem ggX4_readCock_X2_addCock : GoodIn wsX4_readCock wsX2_addCock := goodIn_r _ [24, 8, 7, 25, 26, 27, 28, 29, 30, 10, 31, 38, 39, 40, 41, 42, 43, 44, 45, 46, 47, 48] (by decide +kernel) (by decide +kernel)
set_option maxRecDepth 20000 in
theorem gX4_readCock_X2_addCock_n84 : GoodIn wsX4_readCock (wsX2_addCock) := ggX4_readCock_X2_addCock
theorem dX4_readCock_0 : decode cX4_readCock 0 = .ok (.aload_n 0, 1) := by decide +kernel
theorem dX4_readCock_1 : decode cX4_readCock 1 = .ok (.sipush 1023, 3) := by decide +kernel
theorem dX4_readCock_4 : decode cX4_readCock 4 = .ok (.aload_n 0, 1) := by decide +kernel
theorem dX4_readCock_5 : decode cX4_readCock 5 = .ok (.getfield 18, 3) := by decide +kernel
theorem dX4_readCock_8 : decode cX4_readCock 8 = .ok (.invokevirtual 81, 3) := by decide +kernel
theorem dX4_readCock_11 : decode cX4_readCock 11 = .ok (.iconst (-1), 1) := by decide +kernel
theorem dX4_readCock_12 : decode cX4_readCock 12 = .ok (.ixor, 1) := by decide +kernel
theorem dX4_readCock_13 : decode cX4_readCock 13 = .ok (.iand, 1) := by decide +kernel
theorem dX4_readCock_14 : decode cX4_readCock 14 = .ok (.invokevirtual 74, 3) := by decide +kernel
theorem dX4_readCock_17 : decode cX4_readCock 17 = .ok (.istore_n 1, 1) := by decide +kernel
theorem dX4_readCock_18 : decode cX4_readCock 18 = .ok (.aload_n 0, 1) := by decide +kernel
theorem dX4_readCock_19 : decode cX4_readCock 19 = .ok (.iconst 3, 1) := by decide +kernel
theorem dX4_readCock_20 : decode cX4_readCock 20 = .ok (.invokevirtual 74, 3) := by decide +kernel
theorem dX4_readCock_23 : decode cX4_readCock 23 = .ok (.istore_n 2, 1) := by decide +kernel
theorem dX4_readCock_24 : decode cX4_readCock 24 = .ok (.aload_n 0, 1) := by decide +kernel
theorem dX4_readCock_25 : decode cX4_readCock 25 = .ok (.bipush 15, 2) := by decide +kernel
theorem dX4_readCock_27 : decode cX4_readCock 27 = .ok (.invokevirtual 74, 3) := by decide +kernel
theorem dX4_readCock_30 : decode cX4_readCock 30 = .ok (.istore_n 3, 1) := by decide +kernel
theorem dX4_readCock_31 : decode cX4_readCock 31 = .ok (.aload_n 0, 1) := by decide +kernel
theorem dX4_readCock_32 : decode cX4_readCock 32 = .ok (.bipush 31, 2) := by decide +kernel
theorem dX4_readCock_34 : decode cX4_readCock 34 = .ok (.invokevirtual 74, 3) := by decide +kernel
theorem dX4_readCock_37 : decode cX4_readCock 37 = .ok (.istore 4, 2) := by decide +kernel
theorem dX4_readCock_39 : decode cX4_readCock 39 = .ok (.aload_n 0, 1) := by decide +kernel
theorem dX4_readCock_40 : decode cX4_readCock 40 = .ok (.sipush 1022, 3) := by decide +kernel
theorem dX4_readCock_43 : decode cX4_readCock 43 = .ok (.invokevirtual 74, 3) := by decide +kernel
theorem dX4_readCock_46 : decode cX4_readCock 46 = .ok (.istore 5, 2) := by decide +kernel
theorem dX4_readCock_48 : decode cX4_readCock 48 = .ok (.aload_n 0, 1) := by decide +kernel
theorem dX4_readCock_49 : decode cX4_readCock 49 = .ok (.iconst 3, 1) := by decide +kernel
theorem dX4_readCock_50 : decode cX4_readCock 50 = .ok (.invokevirtual 74, 3) := by decide +kernel
theorem dX4_readCock_53 : decode cX4_readCock 53 = .ok (.istore 6, 2) := by decide +kernel
theorem dX4_readCock_55 : decode cX4_readCock 55 = .ok (.aload_n 0, 1) := by decide +kernel
theorem dX4_readCock_56 : decode cX4_readCock 56 = .ok (.getfield 50, 3) := by decide +kernel
theorem dX4_readCock_59 : decode cX4_readCock 59 = .ok (.ifCond .ne 19, 3) := by decide +kernel
theorem dX4_readCock_62 : decode cX4_readCock 62 = .ok (.aload_n 0, 1) := by decide +kernel
theorem dX4_readCock_63 : decode cX4_readCock 63 = .ok (.getfield 18, 3) := by decide +kernel
theorem dX4_readCock_66 : decode cX4_readCock 66 = .ok (.iload_n 1, 1) := by decide +kernel
theorem dX4_readCock_67 : decode cX4_readCock 67 = .ok (.iload_n 2, 1) := by decide +kernel
theorem dX4_readCock_68 : decode cX4_readCock 68 = .ok (.iload_n 3, 1) := by decide +kernel
theorem dX4_readCock_69 : decode cX4_readCock 69 = .ok (.iload 4, 2) := by decide +kernel
theorem dX4_readCock_71 : decode cX4_readCock 71 = .ok (.iload 5, 2) := by decide +kernel
theorem dX4_readCock_73 : decode cX4_readCock 73 = .ok (.iload 6, 2) := by decide +kernel
theorem dX4_readCock_75 : decode cX4_readCock 75 = .ok (.invokevirtual 84, 3) := by decide +kernel
theorem dX4_readCock_78 : decode cX4_readCock 78 = .ok (.return_, 1) := by decide +kernel
set_option maxRecDepth 20000 in
theorem ggX4_readWind_X4_figure : GoodIn wsX4_readWind wsX4_figure := goodIn_r _ [7, 8, 9, 1, 10, 11, 12, 13, 14, 15, 26, 27, 28, 29, 30, 31] (by decide +kernel) (by decide +kernel)
set_option maxRecDepth 20000 in
theorem gX4_readWind_X4_figure : GoodIn wsX4_readWind (wsV RX4 74 RX4 yX4_figure wsX4_figure) := goodIn_app (goodIn_of _ (by decide +kernel)) ggX4_readWind_X4_figure
set_option maxRecDepth 20000 in
theorem ggX4_readWind_X1_addWind : GoodIn wsX4_readWind wsX1_addWind := goodIn_r _ [19, 20, 21, 22, 23, 24, 12, 25, 32, 33, 34, 35] (by decide +kernel) (by decide +kernel)
set_option maxRecDepth 20000 in
theorem gX4_readWind_X1_addWind_n88 : GoodIn wsX4_readWind (wsX1_addWind) := ggX4_readWind_X1_addWind
theorem dX4_readWind_0 : decode cX4_readWind 0 = .ok (.aload_n 0, 1) := by decide +kernel
theorem dX4_readWind_1 : decode cX4_readWind 1 = .ok (.iconst 3, 1) := by decide +kernel
theorem dX4_readWind_2 : decode cX4_readWind 2 = .ok (.invokevirtual 74, 3) := by decide +kernel
theorem dX4_readWind_5 : decode cX4_readWind 5 = .ok (.istore_n 1, 1) := by decide +kernel
theorem dX4_readWind_6 : decode cX4_readWind 6 = .ok (.aload_n 0, 1) := by decide +kernel
theorem dX4_readWind_7 : decode cX4_readWind 7 = .ok (.bipush 63, 2) := by decide +kernel
theorem dX4_readWind_9 : decode cX4_readWind 9 = .ok (.invokevirtual 74, 3) := by decide +kernel
theorem dX4_readWind_12 : decode cX4_readWind 12 = .ok (.istore_n 2, 1) := by decide +kernel
theorem dX4_readWind_13 : decode cX4_readWind 13 = .ok (.aload_n 0, 1) := by decide +kernel
theorem dX4_readWind_14 : decode cX4_readWind 14 = .ok (.sipush 1022, 3) := by decide +kernel
theorem dX4_readWind_17 : decode cX4_readWind 17 = .ok (.invokevirtual 74, 3) := by decide +kernel
theorem dX4_readWind_20 : decode cX4_readWind 20 = .ok (.istore_n 3, 1) := by decide +kernel
theorem dX4_readWind_21 : decode cX4_readWind 21 = .ok (.aload_n 0, 1) := by decide +kernel
theorem dX4_readWind_22 : decode cX4_readWind 22 = .ok (.getfield 50, 3) := by decide +kernel
theorem dX4_readWind_25 : decode cX4_readWind 25 = .ok (.ifCond .ne 13, 3) := by decide +kernel
theorem dX4_readWind_28 : decode cX4_readWind 28 = .ok (.aload_n 0, 1) := by decide +kernel
theorem dX4_readWind_29 : decode cX4_readWind 29 = .ok (.getfield 25, 3) := by decide +kernel
theorem dX4_readWind_32 : decode cX4_readWind 32 = .ok (.iload_n 1, 1) := by decide +kernel
theorem dX4_readWind_33 : decode cX4_readWind 33 = .ok (.iload_n 2, 1) := by decide +kernel
theorem dX4_readWind_34 : decode cX4_readWind 34 = .ok (.iload_n 3, 1) := by decide +kernel
theorem dX4_readWind_35 : decode cX4_readWind 35 = .ok (.invokevirtual 88, 3) := by decide +kernel
theorem dX4_readWind_38 : decode cX4_readWind 38 = .ok (.return_, 1) := by decide +kernel
set_option maxRecDepth 20000 in
theorem ggX4_figure_X7_at : GoodIn wsX4_figure wsX7_at := goodIn_r _ [7] (by decide +kernel) (by decide +kernel)
set_option maxRecDepth 20000 in
theorem gX4_figure_X7_at_n46 : GoodIn wsX4_figure (wsX7_at) := ggX4_figure_X7_at
set_option maxRecDepth 20000 in
theorem ggX4_figure_X7_bit : GoodIn wsX4_figure wsX7_bit := goodIn_r _ [9] (by decide +kernel) (by decide +kernel)
set_option maxRecDepth 20000 in
theorem gX4_figure_X7_bit_n92 : GoodIn wsX4_figure (wsX7_bit) := ggX4_figure_X7_bit
theorem dX4_figure_0 : decode cX4_figure 0 = .ok (.aload_n 0, 1) := by decide +kernel
theorem dX4_figure_1 : decode cX4_figure 1 = .ok (.getfield 9, 3) := by decide +kernel
theorem dX4_figure_4 : decode cX4_figure 4 = .ok (.aload_n 0, 1) := by decide +kernel
theorem dX4_figure_5 : decode cX4_figure 5 = .ok (.getfield 43, 3) := by decide +kernel
theorem dX4_figure_8 : decode cX4_figure 8 = .ok (.invokestatic 46, 3) := by decide +kernel
theorem dX4_figure_11 : decode cX4_figure 11 = .ok (.bipush 48, 2) := by decide +kernel
theorem dX4_figure_13 : decode cX4_figure 13 = .ok (.isub, 1) := by decide +kernel
theorem dX4_figure_14 : decode cX4_figure 14 = .ok (.istore_n 2, 1) := by decide +kernel
theorem dX4_figure_15 : decode cX4_figure 15 = .ok (.aload_n 0, 1) := by decide +kernel
theorem dX4_figure_16 : decode cX4_figure 16 = .ok (.getfield 50, 3) := by decide +kernel
theorem dX4_figure_19 : decode cX4_figure 19 = .ok (.ifCond .ne 32, 3) := by decide +kernel
theorem dX4_figure_22 : decode cX4_figure 22 = .ok (.aload_n 0, 1) := by decide +kernel
theorem dX4_figure_23 : decode cX4_figure 23 = .ok (.getfield 43, 3) := by decide +kernel
theorem dX4_figure_26 : decode cX4_figure 26 = .ok (.aload_n 0, 1) := by decide +kernel
theorem dX4_figure_27 : decode cX4_figure 27 = .ok (.getfield 29, 3) := by decide +kernel
theorem dX4_figure_30 : decode cX4_figure 30 = .ok (.if_icmp .ge 21, 3) := by decide +kernel
theorem dX4_figure_33 : decode cX4_figure 33 = .ok (.iload_n 2, 1) := by decide +kernel
theorem dX4_figure_34 : decode cX4_figure 34 = .ok (.ifCond .lt 17, 3) := by decide +kernel
theorem dX4_figure_37 : decode cX4_figure 37 = .ok (.iload_n 2, 1) := by decide +kernel
theorem dX4_figure_38 : decode cX4_figure 38 = .ok (.bipush 9, 2) := by decide +kernel
theorem dX4_figure_40 : decode cX4_figure 40 = .ok (.if_icmp .gt 11, 3) := by decide +kernel
theorem dX4_figure_43 : decode cX4_figure 43 = .ok (.iload_n 1, 1) := by decide +kernel
theorem dX4_figure_44 : decode cX4_figure 44 = .ok (.iload_n 2, 1) := by decide +kernel
theorem dX4_figure_45 : decode cX4_figure 45 = .ok (.invokestatic 92, 3) := by decide +kernel
theorem dX4_figure_48 : decode cX4_figure 48 = .ok (.ifCond .ne 10, 3) := by decide +kernel
theorem dX4_figure_51 : decode cX4_figure 51 = .ok (.aload_n 0, 1) := by decide +kernel
theorem dX4_figure_52 : decode cX4_figure 52 = .ok (.iconst 1, 1) := by decide +kernel
theorem dX4_figure_53 : decode cX4_figure 53 = .ok (.putfield 50, 3) := by decide +kernel
theorem dX4_figure_56 : decode cX4_figure 56 = .ok (.iconst 0, 1) := by decide +kernel
theorem dX4_figure_57 : decode cX4_figure 57 = .ok (.ireturn, 1) := by decide +kernel
theorem dX4_figure_58 : decode cX4_figure 58 = .ok (.aload_n 0, 1) := by decide +kernel
theorem dX4_figure_59 : decode cX4_figure 59 = .ok (.dup, 1) := by decide +kernel
theorem dX4_figure_60 : decode cX4_figure 60 = .ok (.getfield 43, 3) := by decide +kernel
theorem dX4_figure_63 : decode cX4_figure 63 = .ok (.iconst 1, 1) := by decide +kernel
theorem dX4_figure_64 : decode cX4_figure 64 = .ok (.iadd, 1) := by decide +kernel
theorem dX4_figure_65 : decode cX4_figure 65 = .ok (.putfield 43, 3) := by decide +kernel
theorem dX4_figure_68 : decode cX4_figure 68 = .ok (.iload_n 2, 1) := by decide +kernel
theorem dX4_figure_69 : decode cX4_figure 69 = .ok (.ireturn, 1) := by decide +kernel
theorem dX5_init_0 : decode cX5_init 0 = .ok (.aload_n 0, 1) := by decide +kernel
theorem dX5_init_1 : decode cX5_init 1 = .ok (.invokespecial 3, 3) := by decide +kernel
theorem dX5_init_4 : decode cX5_init 4 = .ok (.aload_n 0, 1) := by decide +kernel
theorem dX5_init_5 : decode cX5_init 5 = .ok (.bipush 6, 2) := by decide +kernel
theorem dX5_init_7 : decode cX5_init 7 = .ok (.newarray .int, 2) := by decide +kernel
theorem dX5_init_9 : decode cX5_init 9 = .ok (.putfield 9, 3) := by decide +kernel
theorem dX5_init_12 : decode cX5_init 12 = .ok (.aload_n 0, 1) := by decide +kernel
theorem dX5_init_13 : decode cX5_init 13 = .ok (.bipush 6, 2) := by decide +kernel
theorem dX5_init_15 : decode cX5_init 15 = .ok (.newarray .int, 2) := by decide +kernel
theorem dX5_init_17 : decode cX5_init 17 = .ok (.putfield 15, 3) := by decide +kernel
theorem dX5_init_20 : decode cX5_init 20 = .ok (.return_, 1) := by decide +kernel
set_option maxRecDepth 20000 in
theorem ggX5_add_X7_put : GoodIn wsX5_add wsX7_put := goodIn_r _ [6] (by decide +kernel) (by decide +kernel)
set_option maxRecDepth 20000 in
theorem gX5_add_X7_put_n22 : GoodIn wsX5_add (wsX7_put) := ggX5_add_X7_put
theorem dX5_add_0 : decode cX5_add 0 = .ok (.aload_n 0, 1) := by decide +kernel
theorem dX5_add_1 : decode cX5_add 1 = .ok (.getfield 18, 3) := by decide +kernel
theorem dX5_add_4 : decode cX5_add 4 = .ok (.bipush 6, 2) := by decide +kernel
theorem dX5_add_6 : decode cX5_add 6 = .ok (.if_icmp .lt 6, 3) := by decide +kernel
theorem dX5_add_9 : decode cX5_add 9 = .ok (.bipush (-4), 2) := by decide +kernel
theorem dX5_add_11 : decode cX5_add 11 = .ok (.ireturn, 1) := by decide +kernel
theorem dX5_add_12 : decode cX5_add 12 = .ok (.aload_n 0, 1) := by decide +kernel
theorem dX5_add_13 : decode cX5_add 13 = .ok (.getfield 9, 3) := by decide +kernel
theorem dX5_add_16 : decode cX5_add 16 = .ok (.aload_n 0, 1) := by decide +kernel
theorem dX5_add_17 : decode cX5_add 17 = .ok (.getfield 18, 3) := by decide +kernel
theorem dX5_add_20 : decode cX5_add 20 = .ok (.iload_n 1, 1) := by decide +kernel
theorem dX5_add_21 : decode cX5_add 21 = .ok (.invokestatic 22, 3) := by decide +kernel
theorem dX5_add_24 : decode cX5_add 24 = .ok (.aload_n 0, 1) := by decide +kernel
theorem dX5_add_25 : decode cX5_add 25 = .ok (.getfield 15, 3) := by decide +kernel
theorem dX5_add_28 : decode cX5_add 28 = .ok (.aload_n 0, 1) := by decide +kernel
theorem dX5_add_29 : decode cX5_add 29 = .ok (.getfield 18, 3) := by decide +kernel
theorem dX5_add_32 : decode cX5_add 32 = .ok (.iload_n 2, 1) := by decide +kernel
theorem dX5_add_33 : decode cX5_add 33 = .ok (.invokestatic 22, 3) := by decide +kernel
theorem dX5_add_36 : decode cX5_add 36 = .ok (.aload_n 0, 1) := by decide +kernel
theorem dX5_add_37 : decode cX5_add 37 = .ok (.dup, 1) := by decide +kernel
theorem dX5_add_38 : decode cX5_add 38 = .ok (.getfield 18, 3) := by decide +kernel
theorem dX5_add_41 : decode cX5_add 41 = .ok (.iconst 1, 1) := by decide +kernel
theorem dX5_add_42 : decode cX5_add 42 = .ok (.iadd, 1) := by decide +kernel
theorem dX5_add_43 : decode cX5_add 43 = .ok (.putfield 18, 3) := by decide +kernel
theorem dX5_add_46 : decode cX5_add 46 = .ok (.aload_n 0, 1) := by decide +kernel
theorem dX5_add_47 : decode cX5_add 47 = .ok (.getfield 18, 3) := by decide +kernel
theorem dX5_add_50 : decode cX5_add 50 = .ok (.ireturn, 1) := by decide +kernel
set_option maxRecDepth 20000 in
theorem ggX5_agree_X7_at : GoodIn wsX5_agree wsX7_at := goodIn_r _ [6] (by decide +kernel) (by decide +kernel)
set_option maxRecDepth 20000 in
theorem gX5_agree_X7_at_n26 : GoodIn wsX5_agree (wsX7_at) := ggX5_agree_X7_at
set_option maxRecDepth 20000 in
theorem ggX5_agree_X2_hasCock : GoodIn wsX5_agree wsX2_hasCock := goodIn_r _ [10, 11, 17, 18, 19, 20, 21, 22, 23, 24, 25, 26, 27] (by decide +kernel) (by decide +kernel)
set_option maxRecDepth 20000 in
theorem gX5_agree_X2_hasCock_n30 : GoodIn wsX5_agree (wsX2_hasCock) := ggX5_agree_X2_hasCock
set_option maxRecDepth 20000 in
theorem ggX5_agree_X7_bit : GoodIn wsX5_agree wsX7_bit := goodIn_r _ [13] (by decide +kernel) (by decide +kernel)
set_option maxRecDepth 20000 in
theorem gX5_agree_X7_bit_n36 : GoodIn wsX5_agree (wsX7_bit) := ggX5_agree_X7_bit
theorem dX5_agree_0 : decode cX5_agree 0 = .ok (.iconst 0, 1) := by decide +kernel
theorem dX5_agree_1 : decode cX5_agree 1 = .ok (.istore_n 3, 1) := by decide +kernel
theorem dX5_agree_2 : decode cX5_agree 2 = .ok (.iload_n 3, 1) := by decide +kernel
theorem dX5_agree_3 : decode cX5_agree 3 = .ok (.aload_n 0, 1) := by decide +kernel
theorem dX5_agree_4 : decode cX5_agree 4 = .ok (.getfield 18, 3) := by decide +kernel
theorem dX5_agree_7 : decode cX5_agree 7 = .ok (.if_icmp .ge 47, 3) := by decide +kernel
theorem dX5_agree_10 : decode cX5_agree 10 = .ok (.aload_n 0, 1) := by decide +kernel
theorem dX5_agree_11 : decode cX5_agree 11 = .ok (.getfield 9, 3) := by decide +kernel
theorem dX5_agree_14 : decode cX5_agree 14 = .ok (.iload_n 3, 1) := by decide +kernel
theorem dX5_agree_15 : decode cX5_agree 15 = .ok (.invokestatic 26, 3) := by decide +kernel
theorem dX5_agree_18 : decode cX5_agree 18 = .ok (.istore 4, 2) := by decide +kernel
theorem dX5_agree_20 : decode cX5_agree 20 = .ok (.aload_n 1, 1) := by decide +kernel
theorem dX5_agree_21 : decode cX5_agree 21 = .ok (.iload 4, 2) := by decide +kernel
theorem dX5_agree_23 : decode cX5_agree 23 = .ok (.invokevirtual 30, 3) := by decide +kernel
theorem dX5_agree_26 : decode cX5_agree 26 = .ok (.ifCond .eq 22, 3) := by decide +kernel
theorem dX5_agree_29 : decode cX5_agree 29 = .ok (.iload_n 2, 1) := by decide +kernel
theorem dX5_agree_30 : decode cX5_agree 30 = .ok (.iload 4, 2) := by decide +kernel
theorem dX5_agree_32 : decode cX5_agree 32 = .ok (.invokestatic 36, 3) := by decide +kernel
theorem dX5_agree_35 : decode cX5_agree 35 = .ok (.aload_n 0, 1) := by decide +kernel
theorem dX5_agree_36 : decode cX5_agree 36 = .ok (.getfield 15, 3) := by decide +kernel
theorem dX5_agree_39 : decode cX5_agree 39 = .ok (.iload_n 3, 1) := by decide +kernel
theorem dX5_agree_40 : decode cX5_agree 40 = .ok (.invokestatic 26, 3) := by decide +kernel
theorem dX5_agree_43 : decode cX5_agree 43 = .ok (.if_icmp .eq 5, 3) := by decide +kernel
theorem dX5_agree_46 : decode cX5_agree 46 = .ok (.iconst 0, 1) := by decide +kernel
theorem dX5_agree_47 : decode cX5_agree 47 = .ok (.ireturn, 1) := by decide +kernel
theorem dX5_agree_48 : decode cX5_agree 48 = .ok (.iinc 3 1, 3) := by decide +kernel
theorem dX5_agree_51 : decode cX5_agree 51 = .ok (.goto (-49), 3) := by decide +kernel
theorem dX5_agree_54 : decode cX5_agree 54 = .ok (.iconst 1, 1) := by decide +kernel
theorem dX5_agree_55 : decode cX5_agree 55 = .ok (.ireturn, 1) := by decide +kernel
set_option maxRecDepth 20000 in
theorem ggX6_init_X2_init : GoodIn wsX6_init wsX2_init := goodIn_r _ [9, 10, 2, 3, 11, 12, 13, 14, 15, 16, 19, 20, 21, 22, 23, 24, 25, 26, 27, 28, 29] (by decide +kernel) (by decide +kernel)
set_option maxRecDepth 20000 in
theorem gX6_init_X2_init_n17 : GoodIn wsX6_init (wsX2_init) := ggX6_init_X2_init
theorem dX6_init_0 : decode cX6_init 0 = .ok (.aload_n 0, 1) := by decide +kernel
theorem dX6_init_1 : decode cX6_init 1 = .ok (.invokespecial 3, 3) := by decide +kernel
theorem dX6_init_4 : decode cX6_init 4 = .ok (.aload_n 0, 1) := by decide +kernel
theorem dX6_init_5 : decode cX6_init 5 = .ok (.iconst 2, 1) := by decide +kernel
theorem dX6_init_6 : decode cX6_init 6 = .ok (.anewarray 9, 3) := by decide +kernel
theorem dX6_init_9 : decode cX6_init 9 = .ok (.putfield 11, 3) := by decide +kernel
theorem dX6_init_12 : decode cX6_init 12 = .ok (.iconst 0, 1) := by decide +kernel
theorem dX6_init_13 : decode cX6_init 13 = .ok (.istore_n 1, 1) := by decide +kernel
theorem dX6_init_14 : decode cX6_init 14 = .ok (.iload_n 1, 1) := by decide +kernel
theorem dX6_init_15 : decode cX6_init 15 = .ok (.aload_n 0, 1) := by decide +kernel
theorem dX6_init_16 : decode cX6_init 16 = .ok (.getfield 11, 3) := by decide +kernel
theorem dX6_init_19 : decode cX6_init 19 = .ok (.arraylength, 1) := by decide +kernel
theorem dX6_init_20 : decode cX6_init 20 = .ok (.if_icmp .ge 22, 3) := by decide +kernel
theorem dX6_init_23 : decode cX6_init 23 = .ok (.aload_n 0, 1) := by decide +kernel
theorem dX6_init_24 : decode cX6_init 24 = .ok (.getfield 11, 3) := by decide +kernel
theorem dX6_init_27 : decode cX6_init 27 = .ok (.iload_n 1, 1) := by decide +kernel
theorem dX6_init_28 : decode cX6_init 28 = .ok (.new 9, 3) := by decide +kernel
theorem dX6_init_31 : decode cX6_init 31 = .ok (.dup, 1) := by decide +kernel
theorem dX6_init_32 : decode cX6_init 32 = .ok (.invokespecial 17, 3) := by decide +kernel
theorem dX6_init_35 : decode cX6_init 35 = .ok (.aastore, 1) := by decide +kernel
theorem dX6_init_36 : decode cX6_init 36 = .ok (.iinc 1 1, 3) := by decide +kernel
theorem dX6_init_39 : decode cX6_init 39 = .ok (.goto (-25), 3) := by decide +kernel
theorem dX6_init_42 : decode cX6_init 42 = .ok (.return_, 1) := by decide +kernel
theorem dX6_forget_0 : decode cX6_forget 0 = .ok (.aload_n 0, 1) := by decide +kernel
theorem dX6_forget_1 : decode cX6_forget 1 = .ok (.iconst 0, 1) := by decide +kernel
theorem dX6_forget_2 : decode cX6_forget 2 = .ok (.putfield 18, 3) := by decide +kernel
theorem dX6_forget_5 : decode cX6_forget 5 = .ok (.return_, 1) := by decide +kernel
set_option maxRecDepth 20000 in
theorem ggX6_store_X2_copyFrom : GoodIn wsX6_store wsX2_copyFrom := goodIn_r _ [6, 7, 8, 9, 10, 11, 12, 13, 14, 15, 16, 17, 18, 19, 20, 23, 24, 25, 26, 27, 28, 29, 30, 31, 32, 33] (by decide +kernel) (by decide +kernel)
set_option maxRecDepth 20000 in
theorem gX6_store_X2_copyFrom_n22 : GoodIn wsX6_store (wsX2_copyFrom) := ggX6_store_X2_copyFrom
theorem dX6_store_0 : decode cX6_store 0 = .ok (.iload_n 1, 1) := by decide +kernel
theorem dX6_store_1 : decode cX6_store 1 = .ok (.ifCond .lt 21, 3) := by decide +kernel
theorem dX6_store_4 : decode cX6_store 4 = .ok (.iload_n 1, 1) := by decide +kernel
theorem dX6_store_5 : decode cX6_store 5 = .ok (.aload_n 0, 1) := by decide +kernel
theorem dX6_store_6 : decode cX6_store 6 = .ok (.getfield 11, 3) := by decide +kernel
theorem dX6_store_9 : decode cX6_store 9 = .ok (.arraylength, 1) := by decide +kernel
theorem dX6_store_10 : decode cX6_store 10 = .ok (.if_icmp .ge 12, 3) := by decide +kernel
theorem dX6_store_13 : decode cX6_store 13 = .ok (.aload_n 0, 1) := by decide +kernel
theorem dX6_store_14 : decode cX6_store 14 = .ok (.getfield 11, 3) := by decide +kernel
theorem dX6_store_17 : decode cX6_store 17 = .ok (.iload_n 1, 1) := by decide +kernel
theorem dX6_store_18 : decode cX6_store 18 = .ok (.aaload, 1) := by decide +kernel
theorem dX6_store_19 : decode cX6_store 19 = .ok (.ifnonnull 5, 3) := by decide +kernel
theorem dX6_store_22 : decode cX6_store 22 = .ok (.iconst (-1), 1) := by decide +kernel
theorem dX6_store_23 : decode cX6_store 23 = .ok (.ireturn, 1) := by decide +kernel
theorem dX6_store_24 : decode cX6_store 24 = .ok (.aload_n 0, 1) := by decide +kernel
theorem dX6_store_25 : decode cX6_store 25 = .ok (.getfield 11, 3) := by decide +kernel
theorem dX6_store_28 : decode cX6_store 28 = .ok (.iload_n 1, 1) := by decide +kernel
theorem dX6_store_29 : decode cX6_store 29 = .ok (.aaload, 1) := by decide +kernel
theorem dX6_store_30 : decode cX6_store 30 = .ok (.aload_n 2, 1) := by decide +kernel
theorem dX6_store_31 : decode cX6_store 31 = .ok (.invokevirtual 22, 3) := by decide +kernel
theorem dX6_store_34 : decode cX6_store 34 = .ok (.aload_n 0, 1) := by decide +kernel
theorem dX6_store_35 : decode cX6_store 35 = .ok (.dup, 1) := by decide +kernel
theorem dX6_store_36 : decode cX6_store 36 = .ok (.getfield 18, 3) := by decide +kernel
theorem dX6_store_39 : decode cX6_store 39 = .ok (.iconst 1, 1) := by decide +kernel
theorem dX6_store_40 : decode cX6_store 40 = .ok (.iload_n 1, 1) := by decide +kernel
theorem dX6_store_41 : decode cX6_store 41 = .ok (.ishl, 1) := by decide +kernel
theorem dX6_store_42 : decode cX6_store 42 = .ok (.ior, 1) := by decide +kernel
theorem dX6_store_43 : decode cX6_store 43 = .ok (.putfield 18, 3) := by decide +kernel
theorem dX6_store_46 : decode cX6_store 46 = .ok (.aload_n 2, 1) := by decide +kernel
theorem dX6_store_47 : decode cX6_store 47 = .ok (.getfield 26, 3) := by decide +kernel
theorem dX6_store_50 : decode cX6_store 50 = .ok (.ireturn, 1) := by decide +kernel
set_option maxRecDepth 20000 in
theorem ggX6_fetch_X7_bit : GoodIn wsX6_fetch wsX7_bit := goodIn_r _ [5] (by decide +kernel) (by decide +kernel)
set_option maxRecDepth 20000 in
theorem gX6_fetch_X7_bit_n29 : GoodIn wsX6_fetch (wsX7_bit) := ggX6_fetch_X7_bit
set_option maxRecDepth 20000 in
theorem ggX6_fetch_X2_copyFrom : GoodIn wsX6_fetch wsX2_copyFrom := goodIn_r _ [9, 10, 11, 12, 13, 14, 15, 16, 17, 18, 19, 20, 21, 4, 22, 25, 26, 27, 28, 29, 30, 31, 32, 33, 34, 35] (by decide +kernel) (by decide +kernel)
set_option maxRecDepth 20000 in
theorem gX6_fetch_X2_copyFrom_n22 : GoodIn wsX6_fetch (wsX2_copyFrom) := ggX6_fetch_X2_copyFrom
theorem dX6_fetch_0 : decode cX6_fetch 0 = .ok (.iload_n 1, 1) := by decide +kernel
theorem dX6_fetch_1 : decode cX6_fetch 1 = .ok (.ifCond .lt 21, 3) := by decide +kernel
theorem dX6_fetch_4 : decode cX6_fetch 4 = .ok (.iload_n 1, 1) := by decide +kernel
theorem dX6_fetch_5 : decode cX6_fetch 5 = .ok (.aload_n 0, 1) := by decide +kernel
theorem dX6_fetch_6 : decode cX6_fetch 6 = .ok (.getfield 11, 3) := by decide +kernel
theorem dX6_fetch_9 : decode cX6_fetch 9 = .ok (.arraylength, 1) := by decide +kernel
theorem dX6_fetch_10 : decode cX6_fetch 10 = .ok (.if_icmp .ge 12, 3) := by decide +kernel
theorem dX6_fetch_13 : decode cX6_fetch 13 = .ok (.aload_n 0, 1) := by decide +kernel
theorem dX6_fetch_14 : decode cX6_fetch 14 = .ok (.getfield 11, 3) := by decide +kernel
theorem dX6_fetch_17 : decode cX6_fetch 17 = .ok (.iload_n 1, 1) := by decide +kernel
theorem dX6_fetch_18 : decode cX6_fetch 18 = .ok (.aaload, 1) := by decide +kernel
theorem dX6_fetch_19 : decode cX6_fetch 19 = .ok (.ifnonnull 5, 3) := by decide +kernel
theorem dX6_fetch_22 : decode cX6_fetch 22 = .ok (.iconst (-1), 1) := by decide +kernel
theorem dX6_fetch_23 : decode cX6_fetch 23 = .ok (.ireturn, 1) := by decide +kernel
theorem dX6_fetch_24 : decode cX6_fetch 24 = .ok (.aload_n 0, 1) := by decide +kernel
theorem dX6_fetch_25 : decode cX6_fetch 25 = .ok (.getfield 18, 3) := by decide +kernel
theorem dX6_fetch_28 : decode cX6_fetch 28 = .ok (.iload_n 1, 1) := by decide +kernel
theorem dX6_fetch_29 : decode cX6_fetch 29 = .ok (.invokestatic 29, 3) := by decide +kernel
theorem dX6_fetch_32 : decode cX6_fetch 32 = .ok (.ifCond .ne 6, 3) := by decide +kernel
theorem dX6_fetch_35 : decode cX6_fetch 35 = .ok (.bipush (-3), 2) := by decide +kernel
theorem dX6_fetch_37 : decode cX6_fetch 37 = .ok (.ireturn, 1) := by decide +kernel
theorem dX6_fetch_38 : decode cX6_fetch 38 = .ok (.aload_n 2, 1) := by decide +kernel
theorem dX6_fetch_39 : decode cX6_fetch 39 = .ok (.aload_n 0, 1) := by decide +kernel
theorem dX6_fetch_40 : decode cX6_fetch 40 = .ok (.getfield 11, 3) := by decide +kernel
theorem dX6_fetch_43 : decode cX6_fetch 43 = .ok (.iload_n 1, 1) := by decide +kernel
theorem dX6_fetch_44 : decode cX6_fetch 44 = .ok (.aaload, 1) := by decide +kernel
theorem dX6_fetch_45 : decode cX6_fetch 45 = .ok (.invokevirtual 22, 3) := by decide +kernel
theorem dX6_fetch_48 : decode cX6_fetch 48 = .ok (.aload_n 2, 1) := by decide +kernel
theorem dX6_fetch_49 : decode cX6_fetch 49 = .ok (.getfield 26, 3) := by decide +kernel
theorem dX6_fetch_52 : decode cX6_fetch 52 = .ok (.ireturn, 1) := by decide +kernel
set_option maxRecDepth 20000 in
theorem ggX7_init_X4_init : GoodIn wsX7_init wsX4_init := goodIn_r _ [35, 36, 2, 3, 37, 38, 39, 9, 10, 40, 41, 13, 14, 42, 43, 44, 45, 46, 47, 48, 49, 50, 51, 52, 53, 54, 55, 56, 77, 78, 79, 80, 81, 82, 92, 93, 94, 95, 96, 97, 98, 99, 100, 101, 102, 103, 104, 105, 106] (by decide +kernel) (by decide +kernel)
set_option maxRecDepth 20000 in
theorem gX7_init_X4_init_n11 : GoodIn wsX7_init (wsX4_init) := ggX7_init_X4_init
set_option maxRecDepth 20000 in
theorem ggX7_init_X2_init : GoodIn wsX7_init wsX2_init := goodIn_r _ [44, 45, 2, 3, 37, 46, 47, 48, 49, 50, 92, 93, 94, 95, 96, 97, 98, 99, 100, 101, 102] (by decide +kernel) (by decide +kernel)
set_option maxRecDepth 20000 in
theorem gX7_init_X2_init_n18 : GoodIn wsX7_init (wsX2_init) := ggX7_init_X2_init
set_option maxRecDepth 20000 in
theorem ggX7_init_X1_init : GoodIn wsX7_init wsX1_init := goodIn_r _ [52, 53, 2, 3, 37, 54, 55, 56, 103, 104, 105, 106] (by decide +kernel) (by decide +kernel)
set_option maxRecDepth 20000 in
theorem gX7_init_X1_init_n25 : GoodIn wsX7_init (wsX1_init) := ggX7_init_X1_init
set_option maxRecDepth 20000 in
theorem ggX7_init_X0_init : GoodIn wsX7_init wsX0_init := goodIn_r _ [58, 59, 2, 3, 60, 61, 9, 10, 43, 44, 45, 37, 46, 47, 48, 49, 50, 107, 108, 109, 92, 93, 94, 95, 96, 97, 98, 99, 100, 101, 102] (by decide +kernel) (by decide +kernel)
set_option maxRecDepth 20000 in
theorem gX7_init_X0_init_n32 : GoodIn wsX7_init (wsX0_init) := ggX7_init_X0_init
set_option maxRecDepth 20000 in
theorem ggX7_init_X5_init : GoodIn wsX7_init wsX5_init := goodIn_r _ [63, 64, 2, 3, 37, 65, 66, 110, 111, 112] (by decide +kernel) (by decide +kernel)
set_option maxRecDepth 20000 in
theorem gX7_init_X5_init_n39 : GoodIn wsX7_init (wsX5_init) := ggX7_init_X5_init
set_option maxRecDepth 20000 in
theorem ggX7_init_X6_init : GoodIn wsX7_init wsX6_init := goodIn_r _ [68, 69, 2, 3, 70, 71, 9, 10, 43, 44, 45, 37, 46, 47, 48, 49, 50, 113, 114, 92, 93, 94, 95, 96, 97, 98, 99, 100, 101, 102] (by decide +kernel) (by decide +kernel)
set_option maxRecDepth 20000 in
theorem gX7_init_X6_init_n46 : GoodIn wsX7_init (wsX6_init) := ggX7_init_X6_init
set_option maxRecDepth 20000 in
theorem ggX7_init_X3_init : GoodIn wsX7_init wsX3_init := goodIn_r _ [73, 74, 2, 3, 75, 9, 10, 76, 43, 44, 45, 37, 46, 47, 48, 49, 50, 92, 93, 94, 95, 96, 97, 98, 99, 100, 101, 102, 115, 116, 117, 118, 119] (by decide +kernel) (by decide +kernel)
set_option maxRecDepth 20000 in
theorem gX7_init_X3_init_n53 : GoodIn wsX7_init (wsX3_init) := ggX7_init_X3_init
theorem dX7_init_0 : decode cX7_init 0 = .ok (.aload_n 0, 1) := by decide +kernel
theorem dX7_init_1 : decode cX7_init 1 = .ok (.invokespecial 3, 3) := by decide +kernel
theorem dX7_init_4 : decode cX7_init 4 = .ok (.aload_n 0, 1) := by decide +kernel
theorem dX7_init_5 : decode cX7_init 5 = .ok (.new 9, 3) := by decide +kernel
theorem dX7_init_8 : decode cX7_init 8 = .ok (.dup, 1) := by decide +kernel
theorem dX7_init_9 : decode cX7_init 9 = .ok (.invokespecial 11, 3) := by decide +kernel
theorem dX7_init_12 : decode cX7_init 12 = .ok (.putfield 12, 3) := by decide +kernel
theorem dX7_init_15 : decode cX7_init 15 = .ok (.aload_n 0, 1) := by decide +kernel
theorem dX7_init_16 : decode cX7_init 16 = .ok (.new 16, 3) := by decide +kernel
theorem dX7_init_19 : decode cX7_init 19 = .ok (.dup, 1) := by decide +kernel
theorem dX7_init_20 : decode cX7_init 20 = .ok (.invokespecial 18, 3) := by decide +kernel
theorem dX7_init_23 : decode cX7_init 23 = .ok (.putfield 19, 3) := by decide +kernel
theorem dX7_init_26 : decode cX7_init 26 = .ok (.aload_n 0, 1) := by decide +kernel
theorem dX7_init_27 : decode cX7_init 27 = .ok (.new 23, 3) := by decide +kernel
theorem dX7_init_30 : decode cX7_init 30 = .ok (.dup, 1) := by decide +kernel
theorem dX7_init_31 : decode cX7_init 31 = .ok (.invokespecial 25, 3) := by decide +kernel
theorem dX7_init_34 : decode cX7_init 34 = .ok (.putfield 26, 3) := by decide +kernel
theorem dX7_init_37 : decode cX7_init 37 = .ok (.aload_n 0, 1) := by decide +kernel
theorem dX7_init_38 : decode cX7_init 38 = .ok (.new 30, 3) := by decide +kernel
theorem dX7_init_41 : decode cX7_init 41 = .ok (.dup, 1) := by decide +kernel
theorem dX7_init_42 : decode cX7_init 42 = .ok (.invokespecial 32, 3) := by decide +kernel
theorem dX7_init_45 : decode cX7_init 45 = .ok (.putfield 33, 3) := by decide +kernel
theorem dX7_init_48 : decode cX7_init 48 = .ok (.aload_n 0, 1) := by decide +kernel
theorem dX7_init_49 : decode cX7_init 49 = .ok (.new 37, 3) := by decide +kernel
theorem dX7_init_52 : decode cX7_init 52 = .ok (.dup, 1) := by decide +kernel
theorem dX7_init_53 : decode cX7_init 53 = .ok (.invokespecial 39, 3) := by decide +kernel
theorem dX7_init_56 : decode cX7_init 56 = .ok (.putfield 40, 3) := by decide +kernel
theorem dX7_init_59 : decode cX7_init 59 = .ok (.aload_n 0, 1) := by decide +kernel
theorem dX7_init_60 : decode cX7_init 60 = .ok (.new 44, 3) := by decide +kernel
theorem dX7_init_63 : decode cX7_init 63 = .ok (.dup, 1) := by decide +kernel
theorem dX7_init_64 : decode cX7_init 64 = .ok (.invokespecial 46, 3) := by decide +kernel
theorem dX7_init_67 : decode cX7_init 67 = .ok (.putfield 47, 3) := by decide +kernel
theorem dX7_init_70 : decode cX7_init 70 = .ok (.aload_n 0, 1) := by decide +kernel
theorem dX7_init_71 : decode cX7_init 71 = .ok (.new 51, 3) := by decide +kernel
theorem dX7_init_74 : decode cX7_init 74 = .ok (.dup, 1) := by decide +kernel
theorem dX7_init_75 : decode cX7_init 75 = .ok (.invokespecial 53, 3) := by decide +kernel
theorem dX7_init_78 : decode cX7_init 78 = .ok (.putfield 54, 3) := by decide +kernel
theorem dX7_init_81 : decode cX7_init 81 = .ok (.aload_n 0, 1) := by decide +kernel
theorem dX7_init_82 : decode cX7_init 82 = .ok (.new 16, 3) := by decide +kernel
theorem dX7_init_85 : decode cX7_init 85 = .ok (.dup, 1) := by decide +kernel
theorem dX7_init_86 : decode cX7_init 86 = .ok (.invokespecial 18, 3) := by decide +kernel
theorem dX7_init_89 : decode cX7_init 89 = .ok (.putfield 58, 3) := by decide +kernel
theorem dX7_init_92 : decode cX7_init 92 = .ok (.aload_n 0, 1) := by decide +kernel
theorem dX7_init_93 : decode cX7_init 93 = .ok (.lconst 0, 1) := by decide +kernel
theorem dX7_init_94 : decode cX7_init 94 = .ok (.putfield 61, 3) := by decide +kernel
theorem dX7_init_97 : decode cX7_init 97 = .ok (.return_, 1) := by decide +kernel
set_option maxRecDepth 20000 in
theorem ggX7_write_X4_append : GoodIn wsX7_write wsX4_append := goodIn_r _ [5, 6, 7, 8, 9, 10, 20, 21, 22, 23, 24, 25] (by decide +kernel) (by decide +kernel)
set_option maxRecDepth 20000 in
theorem gX7_write_X4_append_n65 : GoodIn wsX7_write (wsX4_append) := ggX7_write_X4_append
theorem dX7_write_0 : decode cX7_write 0 = .ok (.iload_n 1, 1) := by decide +kernel
theorem dX7_write_1 : decode cX7_write 1 = .ok (.ifCond .lt 10, 3) := by decide +kernel
theorem dX7_write_4 : decode cX7_write 4 = .ok (.iload_n 1, 1) := by decide +kernel
theorem dX7_write_5 : decode cX7_write 5 = .ok (.sipush 255, 3) := by decide +kernel
theorem dX7_write_8 : decode cX7_write 8 = .ok (.if_icmp .le 6, 3) := by decide +kernel
theorem dX7_write_11 : decode cX7_write 11 = .ok (.bipush (-2), 2) := by decide +kernel
theorem dX7_write_13 : decode cX7_write 13 = .ok (.ireturn, 1) := by decide +kernel
theorem dX7_write_14 : decode cX7_write 14 = .ok (.aload_n 0, 1) := by decide +kernel
theorem dX7_write_15 : decode cX7_write 15 = .ok (.getfield 12, 3) := by decide +kernel
theorem dX7_write_18 : decode cX7_write 18 = .ok (.iload_n 1, 1) := by decide +kernel
theorem dX7_write_19 : decode cX7_write 19 = .ok (.invokevirtual 65, 3) := by decide +kernel
theorem dX7_write_22 : decode cX7_write 22 = .ok (.ireturn, 1) := by decide +kernel
theorem dX7_wipe_0 : decode cX7_wipe 0 = .ok (.aload_n 0, 1) := by decide +kernel
theorem dX7_wipe_1 : decode cX7_wipe 1 = .ok (.getfield 12, 3) := by decide +kernel
theorem dX7_wipe_4 : decode cX7_wipe 4 = .ok (.getfield 69, 3) := by decide +kernel
theorem dX7_wipe_7 : decode cX7_wipe 7 = .ok (.istore_n 1, 1) := by decide +kernel
theorem dX7_wipe_8 : decode cX7_wipe 8 = .ok (.aload_n 0, 1) := by decide +kernel
theorem dX7_wipe_9 : decode cX7_wipe 9 = .ok (.getfield 12, 3) := by decide +kernel
theorem dX7_wipe_12 : decode cX7_wipe 12 = .ok (.iconst 0, 1) := by decide +kernel
theorem dX7_wipe_13 : decode cX7_wipe 13 = .ok (.putfield 69, 3) := by decide +kernel
theorem dX7_wipe_16 : decode cX7_wipe 16 = .ok (.iload_n 1, 1) := by decide +kernel
theorem dX7_wipe_17 : decode cX7_wipe 17 = .ok (.ireturn, 1) := by decide +kernel
set_option maxRecDepth 20000 in
theorem ggX7_fault_X4_firstFault : GoodIn wsX7_fault wsX4_firstFault := goodIn_r _ [5, 6, 7, 8, 9, 10, 11, 12, 13, 14, 15, 16, 17, 18, 19, 20, 21, 22, 23, 24, 25, 26, 27, 28, 3, 29, 30, 31, 32, 33, 34, 35, 36, 37, 38, 39, 40, 41, 42, 43, 44, 45, 46, 47, 48, 49, 50, 51, 52, 53, 54, 55, 56, 57, 58, 59, 60, 61, 62, 63, 64, 65, 66, 67, 68, 69, 70, 80, 81, 82, 83, 84, 85, 86, 87, 88, 89, 90, 91, 92, 93, 94, 95, 96, 97, 98, 99, 100] (by decide +kernel) (by decide +kernel)
set_option maxRecDepth 20000 in
theorem gX7_fault_X4_firstFault_n73 : GoodIn wsX7_fault (wsX4_firstFault) := ggX7_fault_X4_firstFault
theorem dX7_fault_0 : decode cX7_fault 0 = .ok (.aload_n 0, 1) := by decide +kernel
theorem dX7_fault_1 : decode cX7_fault 1 = .ok (.getfield 12, 3) := by decide +kernel
theorem dX7_fault_4 : decode cX7_fault 4 = .ok (.invokevirtual 73, 3) := by decide +kernel
theorem dX7_fault_7 : decode cX7_fault 7 = .ok (.ireturn, 1) := by decide +kernel
set_option maxRecDepth 20000 in
theorem ggX7_hill_X4_firstFault : GoodIn wsX7_hill wsX4_firstFault := goodIn_r _ [9, 10, 11, 12, 13, 14, 15, 16, 17, 18, 19, 20, 21, 22, 23, 24, 25, 26, 27, 28, 29, 30, 31, 32, 7, 33, 34, 35, 36, 37, 38, 39, 40, 41, 42, 43, 44, 45, 46, 47, 48, 49, 50, 51, 52, 53, 54, 55, 56, 57, 58, 59, 60, 61, 62, 63, 64, 65, 66, 67, 68, 69, 70, 71, 72, 73, 74, 102, 103, 104, 105, 106, 107, 119, 120, 121, 122, 108, 109, 110, 111, 112, 113, 114, 115, 116, 117, 118] (by decide +kernel) (by decide +kernel)
set_option maxRecDepth 20000 in
theorem gX7_hill_X4_firstFault_n73 : GoodIn wsX7_hill (wsX4_firstFault) := ggX7_hill_X4_firstFault
set_option maxRecDepth 20000 in
theorem ggX7_hill_X2_copyFrom : GoodIn wsX7_hill wsX2_copyFrom := goodIn_r _ [77, 20, 56, 60, 61, 62, 21, 22, 23, 24, 25, 26, 78, 28, 79, 108, 109, 110, 111, 112, 113, 114, 115, 116, 117, 118] (by decide +kernel) (by decide +kernel)
set_option maxRecDepth 20000 in
theorem gX7_hill_X2_copyFrom_n80 : GoodIn wsX7_hill (wsX2_copyFrom) := ggX7_hill_X2_copyFrom
set_option maxRecDepth 20000 in
theorem ggX7_hill_X1_copyFrom : GoodIn wsX7_hill wsX1_copyFrom := goodIn_r _ [82, 71, 73, 74, 72, 78, 28, 79, 119, 120, 121, 122] (by decide +kernel) (by decide +kernel)
set_option maxRecDepth 20000 in
theorem gX7_hill_X1_copyFrom_n85 : GoodIn wsX7_hill (wsX1_copyFrom) := ggX7_hill_X1_copyFrom
set_option maxRecDepth 20000 in
theorem ggX7_hill_X0_forget : GoodIn wsX7_hill wsX0_forget := goodIn_r _ [86, 87, 123, 124, 125] (by decide +kernel) (by decide +kernel)
set_option maxRecDepth 20000 in
theorem gX7_hill_X0_forget_n88 : GoodIn wsX7_hill (wsX0_forget) := ggX7_hill_X0_forget
set_option maxRecDepth 20000 in
theorem ggX7_hill_X6_forget : GoodIn wsX7_hill wsX6_forget := goodIn_r _ [91, 92, 126, 127] (by decide +kernel) (by decide +kernel)
set_option maxRecDepth 20000 in
theorem gX7_hill_X6_forget_n91 : GoodIn wsX7_hill (wsX6_forget) := ggX7_hill_X6_forget
theorem dX7_hill_0 : decode cX7_hill 0 = .ok (.aload_n 0, 1) := by decide +kernel
theorem dX7_hill_1 : decode cX7_hill 1 = .ok (.getfield 12, 3) := by decide +kernel
theorem dX7_hill_4 : decode cX7_hill 4 = .ok (.invokevirtual 73, 3) := by decide +kernel
theorem dX7_hill_7 : decode cX7_hill 7 = .ok (.bipush (-9), 2) := by decide +kernel
theorem dX7_hill_9 : decode cX7_hill 9 = .ok (.if_icmp .eq 6, 3) := by decide +kernel
theorem dX7_hill_12 : decode cX7_hill 12 = .ok (.bipush (-3), 2) := by decide +kernel
theorem dX7_hill_14 : decode cX7_hill 14 = .ok (.ireturn, 1) := by decide +kernel
theorem dX7_hill_15 : decode cX7_hill 15 = .ok (.aload_n 0, 1) := by decide +kernel
theorem dX7_hill_16 : decode cX7_hill 16 = .ok (.getfield 19, 3) := by decide +kernel
theorem dX7_hill_19 : decode cX7_hill 19 = .ok (.aload_n 0, 1) := by decide +kernel
theorem dX7_hill_20 : decode cX7_hill 20 = .ok (.getfield 12, 3) := by decide +kernel
theorem dX7_hill_23 : decode cX7_hill 23 = .ok (.getfield 77, 3) := by decide +kernel
theorem dX7_hill_26 : decode cX7_hill 26 = .ok (.invokevirtual 80, 3) := by decide +kernel
theorem dX7_hill_29 : decode cX7_hill 29 = .ok (.aload_n 0, 1) := by decide +kernel
theorem dX7_hill_30 : decode cX7_hill 30 = .ok (.getfield 26, 3) := by decide +kernel
theorem dX7_hill_33 : decode cX7_hill 33 = .ok (.aload_n 0, 1) := by decide +kernel
theorem dX7_hill_34 : decode cX7_hill 34 = .ok (.getfield 12, 3) := by decide +kernel
theorem dX7_hill_37 : decode cX7_hill 37 = .ok (.getfield 84, 3) := by decide +kernel
theorem dX7_hill_40 : decode cX7_hill 40 = .ok (.invokevirtual 85, 3) := by decide +kernel
theorem dX7_hill_43 : decode cX7_hill 43 = .ok (.aload_n 0, 1) := by decide +kernel
theorem dX7_hill_44 : decode cX7_hill 44 = .ok (.getfield 33, 3) := by decide +kernel
theorem dX7_hill_47 : decode cX7_hill 47 = .ok (.invokevirtual 88, 3) := by decide +kernel
theorem dX7_hill_50 : decode cX7_hill 50 = .ok (.aload_n 0, 1) := by decide +kernel
theorem dX7_hill_51 : decode cX7_hill 51 = .ok (.getfield 47, 3) := by decide +kernel
theorem dX7_hill_54 : decode cX7_hill 54 = .ok (.invokevirtual 91, 3) := by decide +kernel
theorem dX7_hill_57 : decode cX7_hill 57 = .ok (.bipush 10, 2) := by decide +kernel
theorem dX7_hill_59 : decode cX7_hill 59 = .ok (.aload_n 0, 1) := by decide +kernel
theorem dX7_hill_60 : decode cX7_hill 60 = .ok (.getfield 19, 3) := by decide +kernel
theorem dX7_hill_63 : decode cX7_hill 63 = .ok (.getfield 92, 3) := by decide +kernel
theorem dX7_hill_66 : decode cX7_hill 66 = .ok (.imul, 1) := by decide +kernel
theorem dX7_hill_67 : decode cX7_hill 67 = .ok (.aload_n 0, 1) := by decide +kernel
theorem dX7_hill_68 : decode cX7_hill 68 = .ok (.getfield 26, 3) := by decide +kernel
theorem dX7_hill_71 : decode cX7_hill 71 = .ok (.getfield 95, 3) := by decide +kernel
theorem dX7_hill_74 : decode cX7_hill 74 = .ok (.iadd, 1) := by decide +kernel
theorem dX7_hill_75 : decode cX7_hill 75 = .ok (.ireturn, 1) := by decide +kernel
set_option maxRecDepth 20000 in
theorem ggX7_tree_X7_isCell : GoodIn wsX7_tree wsX7_isCell := goodIn_r _ [5] (by decide +kernel) (by decide +kernel)
set_option maxRecDepth 20000 in
theorem gX7_tree_X7_isCell : GoodIn wsX7_tree (va_wsS RX7 98 yX7_isCell wsX7_isCell) := goodIn_app (goodIn_of _ (by decide +kernel)) ggX7_tree_X7_isCell
set_option maxRecDepth 20000 in
theorem ggX7_tree_X7_at : GoodIn wsX7_tree wsX7_at := goodIn_r _ [8] (by decide +kernel) (by decide +kernel)
set_option maxRecDepth 20000 in
theorem gX7_tree_X7_at : GoodIn wsX7_tree (va_wsS RX7 106 yX7_at wsX7_at) := goodIn_app (goodIn_of _ (by decide +kernel)) ggX7_tree_X7_at
theorem dX7_tree_0 : decode cX7_tree 0 = .ok (.iload_n 1, 1) := by decide +kernel
theorem dX7_tree_1 : decode cX7_tree 1 = .ok (.invokestatic 98, 3) := by decide +kernel
theorem dX7_tree_4 : decode cX7_tree 4 = .ok (.ifCond .eq 17, 3) := by decide +kernel
theorem dX7_tree_7 : decode cX7_tree 7 = .ok (.aload_n 0, 1) := by decide +kernel
theorem dX7_tree_8 : decode cX7_tree 8 = .ok (.getfield 19, 3) := by decide +kernel
theorem dX7_tree_11 : decode cX7_tree 11 = .ok (.getfield 102, 3) := by decide +kernel
theorem dX7_tree_14 : decode cX7_tree 14 = .ok (.iload_n 1, 1) := by decide +kernel
theorem dX7_tree_15 : decode cX7_tree 15 = .ok (.invokestatic 106, 3) := by decide +kernel
theorem dX7_tree_18 : decode cX7_tree 18 = .ok (.goto 5, 3) := by decide +kernel
theorem dX7_tree_21 : decode cX7_tree 21 = .ok (.bipush (-2), 2) := by decide +kernel
theorem dX7_tree_23 : decode cX7_tree 23 = .ok (.ireturn, 1) := by decide +kernel
set_option maxRecDepth 20000 in
theorem ggX7_cock_X2_hasCock : GoodIn wsX7_cock wsX2_hasCock := goodIn_r _ [5, 6, 23, 24, 25, 26, 27, 28, 29, 30, 31, 32, 33] (by decide +kernel) (by decide +kernel)
set_option maxRecDepth 20000 in
theorem gX7_cock_X2_hasCock_n110 : GoodIn wsX7_cock (wsX2_hasCock) := ggX7_cock_X2_hasCock
set_option maxRecDepth 20000 in
theorem ggX7_cock_X7_at : GoodIn wsX7_cock wsX7_at := goodIn_r _ [10] (by decide +kernel) (by decide +kernel)
set_option maxRecDepth 20000 in
theorem gX7_cock_X7_at : GoodIn wsX7_cock (va_wsS RX7 106 yX7_at wsX7_at) := goodIn_app (goodIn_of _ (by decide +kernel)) ggX7_cock_X7_at
set_option maxRecDepth 20000 in
theorem ggX7_cock_X7_bit : GoodIn wsX7_cock wsX7_bit := goodIn_r _ [13] (by decide +kernel) (by decide +kernel)
set_option maxRecDepth 20000 in
theorem gX7_cock_X7_bit : GoodIn wsX7_cock (va_wsS RX7 119 yX7_bit wsX7_bit) := goodIn_app (goodIn_of _ (by decide +kernel)) ggX7_cock_X7_bit
theorem dX7_cock_0 : decode cX7_cock 0 = .ok (.aload_n 0, 1) := by decide +kernel
theorem dX7_cock_1 : decode cX7_cock 1 = .ok (.getfield 19, 3) := by decide +kernel
theorem dX7_cock_4 : decode cX7_cock 4 = .ok (.iload_n 1, 1) := by decide +kernel
theorem dX7_cock_5 : decode cX7_cock 5 = .ok (.invokevirtual 110, 3) := by decide +kernel
theorem dX7_cock_8 : decode cX7_cock 8 = .ok (.ifCond .ne 5, 3) := by decide +kernel
theorem dX7_cock_11 : decode cX7_cock 11 = .ok (.iconst (-1), 1) := by decide +kernel
theorem dX7_cock_12 : decode cX7_cock 12 = .ok (.ireturn, 1) := by decide +kernel
theorem dX7_cock_13 : decode cX7_cock 13 = .ok (.iload_n 2, 1) := by decide +kernel
theorem dX7_cock_14 : decode cX7_cock 14 = .ok (.tableswitch 126 0 6 #[42, 54, 66, 78, 90, 102, 114], 42) := by decide +kernel
theorem dX7_cock_56 : decode cX7_cock 56 = .ok (.aload_n 0, 1) := by decide +kernel
theorem dX7_cock_57 : decode cX7_cock 57 = .ok (.getfield 19, 3) := by decide +kernel
theorem dX7_cock_60 : decode cX7_cock 60 = .ok (.getfield 113, 3) := by decide +kernel
theorem dX7_cock_63 : decode cX7_cock 63 = .ok (.iload_n 1, 1) := by decide +kernel
theorem dX7_cock_64 : decode cX7_cock 64 = .ok (.invokestatic 106, 3) := by decide +kernel
theorem dX7_cock_67 : decode cX7_cock 67 = .ok (.ireturn, 1) := by decide +kernel
theorem dX7_cock_68 : decode cX7_cock 68 = .ok (.aload_n 0, 1) := by decide +kernel
theorem dX7_cock_69 : decode cX7_cock 69 = .ok (.getfield 19, 3) := by decide +kernel
theorem dX7_cock_72 : decode cX7_cock 72 = .ok (.getfield 116, 3) := by decide +kernel
theorem dX7_cock_75 : decode cX7_cock 75 = .ok (.iload_n 1, 1) := by decide +kernel
theorem dX7_cock_76 : decode cX7_cock 76 = .ok (.invokestatic 119, 3) := by decide +kernel
theorem dX7_cock_79 : decode cX7_cock 79 = .ok (.ireturn, 1) := by decide +kernel
theorem dX7_cock_80 : decode cX7_cock 80 = .ok (.aload_n 0, 1) := by decide +kernel
theorem dX7_cock_81 : decode cX7_cock 81 = .ok (.getfield 19, 3) := by decide +kernel
theorem dX7_cock_84 : decode cX7_cock 84 = .ok (.getfield 123, 3) := by decide +kernel
theorem dX7_cock_87 : decode cX7_cock 87 = .ok (.iload_n 1, 1) := by decide +kernel
theorem dX7_cock_88 : decode cX7_cock 88 = .ok (.invokestatic 106, 3) := by decide +kernel
theorem dX7_cock_91 : decode cX7_cock 91 = .ok (.ireturn, 1) := by decide +kernel
theorem dX7_cock_92 : decode cX7_cock 92 = .ok (.aload_n 0, 1) := by decide +kernel
theorem dX7_cock_93 : decode cX7_cock 93 = .ok (.getfield 19, 3) := by decide +kernel
theorem dX7_cock_96 : decode cX7_cock 96 = .ok (.getfield 126, 3) := by decide +kernel
theorem dX7_cock_99 : decode cX7_cock 99 = .ok (.iload_n 1, 1) := by decide +kernel
theorem dX7_cock_100 : decode cX7_cock 100 = .ok (.invokestatic 106, 3) := by decide +kernel
theorem dX7_cock_103 : decode cX7_cock 103 = .ok (.ireturn, 1) := by decide +kernel
theorem dX7_cock_104 : decode cX7_cock 104 = .ok (.aload_n 0, 1) := by decide +kernel
theorem dX7_cock_105 : decode cX7_cock 105 = .ok (.getfield 19, 3) := by decide +kernel
theorem dX7_cock_108 : decode cX7_cock 108 = .ok (.getfield 129, 3) := by decide +kernel
theorem dX7_cock_111 : decode cX7_cock 111 = .ok (.iload_n 1, 1) := by decide +kernel
theorem dX7_cock_112 : decode cX7_cock 112 = .ok (.invokestatic 106, 3) := by decide +kernel
theorem dX7_cock_115 : decode cX7_cock 115 = .ok (.ireturn, 1) := by decide +kernel
theorem dX7_cock_116 : decode cX7_cock 116 = .ok (.aload_n 0, 1) := by decide +kernel
theorem dX7_cock_117 : decode cX7_cock 117 = .ok (.getfield 19, 3) := by decide +kernel
theorem dX7_cock_120 : decode cX7_cock 120 = .ok (.getfield 132, 3) := by decide +kernel
theorem dX7_cock_123 : decode cX7_cock 123 = .ok (.iload_n 1, 1) := by decide +kernel
theorem dX7_cock_124 : decode cX7_cock 124 = .ok (.invokestatic 119, 3) := by decide +kernel
theorem dX7_cock_127 : decode cX7_cock 127 = .ok (.ireturn, 1) := by decide +kernel
theorem dX7_cock_128 : decode cX7_cock 128 = .ok (.aload_n 0, 1) := by decide +kernel
theorem dX7_cock_129 : decode cX7_cock 129 = .ok (.getfield 19, 3) := by decide +kernel
theorem dX7_cock_132 : decode cX7_cock 132 = .ok (.getfield 135, 3) := by decide +kernel
theorem dX7_cock_135 : decode cX7_cock 135 = .ok (.iload_n 1, 1) := by decide +kernel
theorem dX7_cock_136 : decode cX7_cock 136 = .ok (.invokestatic 119, 3) := by decide +kernel
theorem dX7_cock_139 : decode cX7_cock 139 = .ok (.ireturn, 1) := by decide +kernel
theorem dX7_cock_140 : decode cX7_cock 140 = .ok (.bipush (-2), 2) := by decide +kernel
theorem dX7_cock_142 : decode cX7_cock 142 = .ok (.ireturn, 1) := by decide +kernel
set_option maxRecDepth 20000 in
theorem ggX7_wind_X1_hasWind : GoodIn wsX7_wind wsX1_hasWind := goodIn_r _ [6, 7, 37, 38, 39, 40] (by decide +kernel) (by decide +kernel)
set_option maxRecDepth 20000 in
theorem gX7_wind_X1_hasWind_n138 : GoodIn wsX7_wind (wsX1_hasWind) := ggX7_wind_X1_hasWind
set_option maxRecDepth 20000 in
theorem ggX7_wind_X7_at : GoodIn wsX7_wind wsX7_at := goodIn_r _ [11] (by decide +kernel) (by decide +kernel)
set_option maxRecDepth 20000 in
theorem gX7_wind_X7_at : GoodIn wsX7_wind (va_wsS RX7 106 yX7_at wsX7_at) := goodIn_app (goodIn_of _ (by decide +kernel)) ggX7_wind_X7_at
set_option maxRecDepth 20000 in
theorem ggX7_wind_X1_waysBehind : GoodIn wsX7_wind wsX1_waysBehind := goodIn_r _ [14, 15, 16, 9, 10, 11, 17, 18, 19, 20, 21, 22, 23, 24, 25, 26, 27, 37, 38, 39, 40, 41, 42, 43, 44, 45, 46, 47, 48, 49, 50, 51] (by decide +kernel) (by decide +kernel)
set_option maxRecDepth 20000 in
theorem gX7_wind_X1_waysBehind_n150 : GoodIn wsX7_wind (wsX1_waysBehind) := ggX7_wind_X1_waysBehind
theorem dX7_wind_0 : decode cX7_wind 0 = .ok (.aload_n 0, 1) := by decide +kernel
theorem dX7_wind_1 : decode cX7_wind 1 = .ok (.getfield 26, 3) := by decide +kernel
theorem dX7_wind_4 : decode cX7_wind 4 = .ok (.iload_n 1, 1) := by decide +kernel
theorem dX7_wind_5 : decode cX7_wind 5 = .ok (.invokevirtual 138, 3) := by decide +kernel
theorem dX7_wind_8 : decode cX7_wind 8 = .ok (.ifCond .ne 5, 3) := by decide +kernel
theorem dX7_wind_11 : decode cX7_wind 11 = .ok (.iconst (-1), 1) := by decide +kernel
theorem dX7_wind_12 : decode cX7_wind 12 = .ok (.ireturn, 1) := by decide +kernel
theorem dX7_wind_13 : decode cX7_wind 13 = .ok (.iload_n 2, 1) := by decide +kernel
theorem dX7_wind_14 : decode cX7_wind 14 = .ok (.tableswitch 95 0 3 #[30, 42, 54, 66], 30) := by decide +kernel
theorem dX7_wind_44 : decode cX7_wind 44 = .ok (.aload_n 0, 1) := by decide +kernel
theorem dX7_wind_45 : decode cX7_wind 45 = .ok (.getfield 26, 3) := by decide +kernel
theorem dX7_wind_48 : decode cX7_wind 48 = .ok (.getfield 141, 3) := by decide +kernel
theorem dX7_wind_51 : decode cX7_wind 51 = .ok (.iload_n 1, 1) := by decide +kernel
theorem dX7_wind_52 : decode cX7_wind 52 = .ok (.invokestatic 106, 3) := by decide +kernel
theorem dX7_wind_55 : decode cX7_wind 55 = .ok (.ireturn, 1) := by decide +kernel
theorem dX7_wind_56 : decode cX7_wind 56 = .ok (.aload_n 0, 1) := by decide +kernel
theorem dX7_wind_57 : decode cX7_wind 57 = .ok (.getfield 26, 3) := by decide +kernel
theorem dX7_wind_60 : decode cX7_wind 60 = .ok (.getfield 144, 3) := by decide +kernel
theorem dX7_wind_63 : decode cX7_wind 63 = .ok (.iload_n 1, 1) := by decide +kernel
theorem dX7_wind_64 : decode cX7_wind 64 = .ok (.invokestatic 106, 3) := by decide +kernel
theorem dX7_wind_67 : decode cX7_wind 67 = .ok (.ireturn, 1) := by decide +kernel
theorem dX7_wind_68 : decode cX7_wind 68 = .ok (.aload_n 0, 1) := by decide +kernel
theorem dX7_wind_69 : decode cX7_wind 69 = .ok (.getfield 26, 3) := by decide +kernel
theorem dX7_wind_72 : decode cX7_wind 72 = .ok (.getfield 147, 3) := by decide +kernel
theorem dX7_wind_75 : decode cX7_wind 75 = .ok (.iload_n 1, 1) := by decide +kernel
theorem dX7_wind_76 : decode cX7_wind 76 = .ok (.invokestatic 106, 3) := by decide +kernel
theorem dX7_wind_79 : decode cX7_wind 79 = .ok (.ireturn, 1) := by decide +kernel
theorem dX7_wind_80 : decode cX7_wind 80 = .ok (.aload_n 0, 1) := by decide +kernel
theorem dX7_wind_81 : decode cX7_wind 81 = .ok (.getfield 19, 3) := by decide +kernel
theorem dX7_wind_84 : decode cX7_wind 84 = .ok (.getfield 132, 3) := by decide +kernel
theorem dX7_wind_87 : decode cX7_wind 87 = .ok (.aload_n 0, 1) := by decide +kernel
theorem dX7_wind_88 : decode cX7_wind 88 = .ok (.getfield 26, 3) := by decide +kernel
theorem dX7_wind_91 : decode cX7_wind 91 = .ok (.aload_n 0, 1) := by decide +kernel
theorem dX7_wind_92 : decode cX7_wind 92 = .ok (.getfield 19, 3) := by decide +kernel
theorem dX7_wind_95 : decode cX7_wind 95 = .ok (.iload_n 1, 1) := by decide +kernel
theorem dX7_wind_96 : decode cX7_wind 96 = .ok (.aload_n 0, 1) := by decide +kernel
theorem dX7_wind_97 : decode cX7_wind 97 = .ok (.getfield 19, 3) := by decide +kernel
theorem dX7_wind_100 : decode cX7_wind 100 = .ok (.getfield 135, 3) := by decide +kernel
theorem dX7_wind_103 : decode cX7_wind 103 = .ok (.iconst 0, 1) := by decide +kernel
theorem dX7_wind_104 : decode cX7_wind 104 = .ok (.invokevirtual 150, 3) := by decide +kernel
theorem dX7_wind_107 : decode cX7_wind 107 = .ok (.ixor, 1) := by decide +kernel
theorem dX7_wind_108 : decode cX7_wind 108 = .ok (.ireturn, 1) := by decide +kernel
theorem dX7_wind_109 : decode cX7_wind 109 = .ok (.bipush (-2), 2) := by decide +kernel
theorem dX7_wind_111 : decode cX7_wind 111 = .ok (.ireturn, 1) := by decide +kernel
set_option maxRecDepth 20000 in
theorem ggX7_blow_X1_hasWind : GoodIn wsX7_blow wsX1_hasWind := goodIn_r _ [7, 8, 62, 63, 64, 65] (by decide +kernel) (by decide +kernel)
set_option maxRecDepth 20000 in
theorem gX7_blow_X1_hasWind_n138 : GoodIn wsX7_blow (wsX1_hasWind) := ggX7_blow_X1_hasWind
set_option maxRecDepth 20000 in
theorem ggX7_blow_X0_remember : GoodIn wsX7_blow wsX0_remember := goodIn_r _ [12, 13, 14, 15, 16, 17, 18, 19, 20, 21, 22, 23, 24, 25, 26, 27, 28, 29, 30, 31, 32, 33, 66, 67, 68, 69, 70, 71, 72, 73, 74, 75, 76, 77, 78, 79] (by decide +kernel) (by decide +kernel)
set_option maxRecDepth 20000 in
theorem gX7_blow_X0_remember_n154 : GoodIn wsX7_blow (wsX0_remember) := ggX7_blow_X0_remember
set_option maxRecDepth 20000 in
theorem ggX7_blow_X1_blowOver : GoodIn wsX7_blow wsX1_blowOver := goodIn_r _ [36, 37, 38, 39, 5, 40, 41, 42, 43, 32, 44, 45, 17, 46, 47, 25, 21, 20, 23, 22, 48, 49, 50, 51, 52, 26, 24, 29, 69, 70, 71, 72, 73, 74, 75, 76, 77, 78, 79, 62, 63, 64, 65] (by decide +kernel) (by decide +kernel)
set_option maxRecDepth 20000 in
theorem gX7_blow_X1_blowOver_n157 : GoodIn wsX7_blow (wsX1_blowOver) := ggX7_blow_X1_blowOver
theorem dX7_blow_0 : decode cX7_blow 0 = .ok (.aload_n 0, 1) := by decide +kernel
theorem dX7_blow_1 : decode cX7_blow 1 = .ok (.getfield 26, 3) := by decide +kernel
theorem dX7_blow_4 : decode cX7_blow 4 = .ok (.iload_n 1, 1) := by decide +kernel
theorem dX7_blow_5 : decode cX7_blow 5 = .ok (.invokevirtual 138, 3) := by decide +kernel
theorem dX7_blow_8 : decode cX7_blow 8 = .ok (.ifCond .ne 5, 3) := by decide +kernel
theorem dX7_blow_11 : decode cX7_blow 11 = .ok (.iconst (-1), 1) := by decide +kernel
theorem dX7_blow_12 : decode cX7_blow 12 = .ok (.ireturn, 1) := by decide +kernel
theorem dX7_blow_13 : decode cX7_blow 13 = .ok (.aload_n 0, 1) := by decide +kernel
theorem dX7_blow_14 : decode cX7_blow 14 = .ok (.getfield 33, 3) := by decide +kernel
theorem dX7_blow_17 : decode cX7_blow 17 = .ok (.aload_n 0, 1) := by decide +kernel
theorem dX7_blow_18 : decode cX7_blow 18 = .ok (.getfield 19, 3) := by decide +kernel
theorem dX7_blow_21 : decode cX7_blow 21 = .ok (.invokevirtual 154, 3) := by decide +kernel
theorem dX7_blow_24 : decode cX7_blow 24 = .ok (.aload_n 0, 1) := by decide +kernel
theorem dX7_blow_25 : decode cX7_blow 25 = .ok (.getfield 26, 3) := by decide +kernel
theorem dX7_blow_28 : decode cX7_blow 28 = .ok (.aload_n 0, 1) := by decide +kernel
theorem dX7_blow_29 : decode cX7_blow 29 = .ok (.getfield 19, 3) := by decide +kernel
theorem dX7_blow_32 : decode cX7_blow 32 = .ok (.iload_n 1, 1) := by decide +kernel
theorem dX7_blow_33 : decode cX7_blow 33 = .ok (.invokevirtual 157, 3) := by decide +kernel
theorem dX7_blow_36 : decode cX7_blow 36 = .ok (.ireturn, 1) := by decide +kernel
set_option maxRecDepth 20000 in
theorem ggX7_fell_X7_isCell : GoodIn wsX7_fell wsX7_isCell := goodIn_r _ [6] (by decide +kernel) (by decide +kernel)
set_option maxRecDepth 20000 in
theorem gX7_fell_X7_isCell : GoodIn wsX7_fell (va_wsS RX7 98 yX7_isCell wsX7_isCell) := goodIn_app (goodIn_of _ (by decide +kernel)) ggX7_fell_X7_isCell
set_option maxRecDepth 20000 in
theorem ggX7_fell_X7_at : GoodIn wsX7_fell wsX7_at := goodIn_r _ [9] (by decide +kernel) (by decide +kernel)
set_option maxRecDepth 20000 in
theorem gX7_fell_X7_at : GoodIn wsX7_fell (va_wsS RX7 106 yX7_at wsX7_at) := goodIn_app (goodIn_of _ (by decide +kernel)) ggX7_fell_X7_at
set_option maxRecDepth 20000 in
theorem ggX7_fell_X0_remember : GoodIn wsX7_fell wsX0_remember := goodIn_r _ [13, 14, 15, 16, 17, 18, 19, 20, 21, 22, 23, 24, 25, 26, 27, 28, 29, 30, 31, 32, 5, 33, 57, 58, 59, 46, 47, 48, 49, 50, 51, 52, 53, 54, 55, 56] (by decide +kernel) (by decide +kernel)
set_option maxRecDepth 20000 in
theorem gX7_fell_X0_remember_n154 : GoodIn wsX7_fell (wsX0_remember) := ggX7_fell_X0_remember
set_option maxRecDepth 20000 in
theorem ggX7_fell_X7_put : GoodIn wsX7_fell wsX7_put := goodIn_r _ [36] (by decide +kernel) (by decide +kernel)
set_option maxRecDepth 20000 in
theorem gX7_fell_X7_put : GoodIn wsX7_fell (va_wsS RX7 161 yX7_put wsX7_put) := goodIn_app (goodIn_of _ (by decide +kernel)) ggX7_fell_X7_put
theorem dX7_fell_0 : decode cX7_fell 0 = .ok (.iload_n 1, 1) := by decide +kernel
theorem dX7_fell_1 : decode cX7_fell 1 = .ok (.invokestatic 98, 3) := by decide +kernel
theorem dX7_fell_4 : decode cX7_fell 4 = .ok (.ifCond .ne 6, 3) := by decide +kernel
theorem dX7_fell_7 : decode cX7_fell 7 = .ok (.bipush (-2), 2) := by decide +kernel
theorem dX7_fell_9 : decode cX7_fell 9 = .ok (.ireturn, 1) := by decide +kernel
theorem dX7_fell_10 : decode cX7_fell 10 = .ok (.aload_n 0, 1) := by decide +kernel
theorem dX7_fell_11 : decode cX7_fell 11 = .ok (.getfield 19, 3) := by decide +kernel
theorem dX7_fell_14 : decode cX7_fell 14 = .ok (.getfield 102, 3) := by decide +kernel
theorem dX7_fell_17 : decode cX7_fell 17 = .ok (.iload_n 1, 1) := by decide +kernel
theorem dX7_fell_18 : decode cX7_fell 18 = .ok (.invokestatic 106, 3) := by decide +kernel
theorem dX7_fell_21 : decode cX7_fell 21 = .ok (.istore_n 2, 1) := by decide +kernel
theorem dX7_fell_22 : decode cX7_fell 22 = .ok (.iload_n 2, 1) := by decide +kernel
theorem dX7_fell_23 : decode cX7_fell 23 = .ok (.ifCond .ne 6, 3) := by decide +kernel
theorem dX7_fell_26 : decode cX7_fell 26 = .ok (.bipush (-3), 2) := by decide +kernel
theorem dX7_fell_28 : decode cX7_fell 28 = .ok (.ireturn, 1) := by decide +kernel
theorem dX7_fell_29 : decode cX7_fell 29 = .ok (.aload_n 0, 1) := by decide +kernel
theorem dX7_fell_30 : decode cX7_fell 30 = .ok (.getfield 33, 3) := by decide +kernel
theorem dX7_fell_33 : decode cX7_fell 33 = .ok (.aload_n 0, 1) := by decide +kernel
theorem dX7_fell_34 : decode cX7_fell 34 = .ok (.getfield 19, 3) := by decide +kernel
theorem dX7_fell_37 : decode cX7_fell 37 = .ok (.invokevirtual 154, 3) := by decide +kernel
theorem dX7_fell_40 : decode cX7_fell 40 = .ok (.aload_n 0, 1) := by decide +kernel
theorem dX7_fell_41 : decode cX7_fell 41 = .ok (.getfield 19, 3) := by decide +kernel
theorem dX7_fell_44 : decode cX7_fell 44 = .ok (.getfield 102, 3) := by decide +kernel
theorem dX7_fell_47 : decode cX7_fell 47 = .ok (.iload_n 1, 1) := by decide +kernel
theorem dX7_fell_48 : decode cX7_fell 48 = .ok (.iconst 0, 1) := by decide +kernel
theorem dX7_fell_49 : decode cX7_fell 49 = .ok (.invokestatic 161, 3) := by decide +kernel
theorem dX7_fell_52 : decode cX7_fell 52 = .ok (.iload_n 2, 1) := by decide +kernel
theorem dX7_fell_53 : decode cX7_fell 53 = .ok (.ireturn, 1) := by decide +kernel
set_option maxRecDepth 20000 in
theorem ggX7_move_X2_hasCock : GoodIn wsX7_move wsX2_hasCock := goodIn_r _ [6, 7, 55, 56, 57, 58, 59, 60, 61, 62, 63, 64, 65] (by decide +kernel) (by decide +kernel)
set_option maxRecDepth 20000 in
theorem gX7_move_X2_hasCock_n110 : GoodIn wsX7_move (wsX2_hasCock) := ggX7_move_X2_hasCock
set_option maxRecDepth 20000 in
theorem ggX7_move_X7_isCell : GoodIn wsX7_move wsX7_isCell := goodIn_r _ [11] (by decide +kernel) (by decide +kernel)
set_option maxRecDepth 20000 in
theorem gX7_move_X7_isCell : GoodIn wsX7_move (va_wsS RX7 98 yX7_isCell wsX7_isCell) := goodIn_app (goodIn_of _ (by decide +kernel)) ggX7_move_X7_isCell
set_option maxRecDepth 20000 in
theorem ggX7_move_X2_takenCells : GoodIn wsX7_move wsX2_takenCells := goodIn_r _ [14, 7, 15, 16, 10, 17, 55, 56, 57, 58, 59, 60, 61, 62, 63, 64, 65] (by decide +kernel) (by decide +kernel)
set_option maxRecDepth 20000 in
theorem gX7_move_X2_takenCells_n165 : GoodIn wsX7_move (wsX2_takenCells) := ggX7_move_X2_takenCells
set_option maxRecDepth 20000 in
theorem ggX7_move_X7_bit : GoodIn wsX7_move wsX7_bit := goodIn_r _ [20] (by decide +kernel) (by decide +kernel)
set_option maxRecDepth 20000 in
theorem gX7_move_X7_bit : GoodIn wsX7_move (va_wsS RX7 119 yX7_bit wsX7_bit) := goodIn_app (goodIn_of _ (by decide +kernel)) ggX7_move_X7_bit
set_option maxRecDepth 20000 in
theorem ggX7_move_X0_remember : GoodIn wsX7_move wsX0_remember := goodIn_r _ [24, 25, 26, 27, 28, 4, 29, 30, 31, 15, 32, 33, 34, 7, 35, 36, 37, 38, 39, 40, 10, 41, 66, 67, 68, 55, 56, 57, 58, 59, 60, 61, 62, 63, 64, 65] (by decide +kernel) (by decide +kernel)
set_option maxRecDepth 20000 in
theorem gX7_move_X0_remember_n154 : GoodIn wsX7_move (wsX0_remember) := ggX7_move_X0_remember
set_option maxRecDepth 20000 in
theorem ggX7_move_X7_at : GoodIn wsX7_move wsX7_at := goodIn_r _ [17] (by decide +kernel) (by decide +kernel)
set_option maxRecDepth 20000 in
theorem gX7_move_X7_at : GoodIn wsX7_move (va_wsS RX7 106 yX7_at wsX7_at) := goodIn_app (goodIn_of _ (by decide +kernel)) ggX7_move_X7_at
set_option maxRecDepth 20000 in
theorem ggX7_move_X7_put : GoodIn wsX7_move wsX7_put := goodIn_r _ [45] (by decide +kernel) (by decide +kernel)
set_option maxRecDepth 20000 in
theorem gX7_move_X7_put : GoodIn wsX7_move (va_wsS RX7 161 yX7_put wsX7_put) := goodIn_app (goodIn_of _ (by decide +kernel)) ggX7_move_X7_put
theorem dX7_move_0 : decode cX7_move 0 = .ok (.aload_n 0, 1) := by decide +kernel
theorem dX7_move_1 : decode cX7_move 1 = .ok (.getfield 19, 3) := by decide +kernel
theorem dX7_move_4 : decode cX7_move 4 = .ok (.iload_n 1, 1) := by decide +kernel
theorem dX7_move_5 : decode cX7_move 5 = .ok (.invokevirtual 110, 3) := by decide +kernel
theorem dX7_move_8 : decode cX7_move 8 = .ok (.ifCond .ne 5, 3) := by decide +kernel
theorem dX7_move_11 : decode cX7_move 11 = .ok (.iconst (-1), 1) := by decide +kernel
theorem dX7_move_12 : decode cX7_move 12 = .ok (.ireturn, 1) := by decide +kernel
theorem dX7_move_13 : decode cX7_move 13 = .ok (.iload_n 2, 1) := by decide +kernel
theorem dX7_move_14 : decode cX7_move 14 = .ok (.invokestatic 98, 3) := by decide +kernel
theorem dX7_move_17 : decode cX7_move 17 = .ok (.ifCond .ne 6, 3) := by decide +kernel
theorem dX7_move_20 : decode cX7_move 20 = .ok (.bipush (-2), 2) := by decide +kernel
theorem dX7_move_22 : decode cX7_move 22 = .ok (.ireturn, 1) := by decide +kernel
theorem dX7_move_23 : decode cX7_move 23 = .ok (.aload_n 0, 1) := by decide +kernel
theorem dX7_move_24 : decode cX7_move 24 = .ok (.getfield 19, 3) := by decide +kernel
theorem dX7_move_27 : decode cX7_move 27 = .ok (.invokevirtual 165, 3) := by decide +kernel
theorem dX7_move_30 : decode cX7_move 30 = .ok (.iload_n 2, 1) := by decide +kernel
theorem dX7_move_31 : decode cX7_move 31 = .ok (.invokestatic 119, 3) := by decide +kernel
theorem dX7_move_34 : decode cX7_move 34 = .ok (.iconst 1, 1) := by decide +kernel
theorem dX7_move_35 : decode cX7_move 35 = .ok (.if_icmp .ne 6, 3) := by decide +kernel
theorem dX7_move_38 : decode cX7_move 38 = .ok (.bipush (-3), 2) := by decide +kernel
theorem dX7_move_40 : decode cX7_move 40 = .ok (.ireturn, 1) := by decide +kernel
theorem dX7_move_41 : decode cX7_move 41 = .ok (.aload_n 0, 1) := by decide +kernel
theorem dX7_move_42 : decode cX7_move 42 = .ok (.getfield 33, 3) := by decide +kernel
theorem dX7_move_45 : decode cX7_move 45 = .ok (.aload_n 0, 1) := by decide +kernel
theorem dX7_move_46 : decode cX7_move 46 = .ok (.getfield 19, 3) := by decide +kernel
theorem dX7_move_49 : decode cX7_move 49 = .ok (.invokevirtual 154, 3) := by decide +kernel
theorem dX7_move_52 : decode cX7_move 52 = .ok (.aload_n 0, 1) := by decide +kernel
theorem dX7_move_53 : decode cX7_move 53 = .ok (.getfield 19, 3) := by decide +kernel
theorem dX7_move_56 : decode cX7_move 56 = .ok (.getfield 113, 3) := by decide +kernel
theorem dX7_move_59 : decode cX7_move 59 = .ok (.iload_n 1, 1) := by decide +kernel
theorem dX7_move_60 : decode cX7_move 60 = .ok (.invokestatic 106, 3) := by decide +kernel
theorem dX7_move_63 : decode cX7_move 63 = .ok (.istore_n 3, 1) := by decide +kernel
theorem dX7_move_64 : decode cX7_move 64 = .ok (.aload_n 0, 1) := by decide +kernel
theorem dX7_move_65 : decode cX7_move 65 = .ok (.getfield 19, 3) := by decide +kernel
theorem dX7_move_68 : decode cX7_move 68 = .ok (.getfield 113, 3) := by decide +kernel
theorem dX7_move_71 : decode cX7_move 71 = .ok (.iload_n 1, 1) := by decide +kernel
theorem dX7_move_72 : decode cX7_move 72 = .ok (.iload_n 2, 1) := by decide +kernel
theorem dX7_move_73 : decode cX7_move 73 = .ok (.invokestatic 161, 3) := by decide +kernel
theorem dX7_move_76 : decode cX7_move 76 = .ok (.iload_n 3, 1) := by decide +kernel
theorem dX7_move_77 : decode cX7_move 77 = .ok (.ireturn, 1) := by decide +kernel
set_option maxRecDepth 20000 in
theorem ggX7_grease_X2_hasCock : GoodIn wsX7_grease wsX2_hasCock := goodIn_r _ [6, 7, 46, 47, 48, 49, 50, 51, 52, 53, 54, 55, 56] (by decide +kernel) (by decide +kernel)
set_option maxRecDepth 20000 in
theorem gX7_grease_X2_hasCock_n110 : GoodIn wsX7_grease (wsX2_hasCock) := ggX7_grease_X2_hasCock
set_option maxRecDepth 20000 in
theorem ggX7_grease_X7_at : GoodIn wsX7_grease wsX7_at := goodIn_r _ [11] (by decide +kernel) (by decide +kernel)
set_option maxRecDepth 20000 in
theorem gX7_grease_X7_at : GoodIn wsX7_grease (va_wsS RX7 106 yX7_at wsX7_at) := goodIn_app (goodIn_of _ (by decide +kernel)) ggX7_grease_X7_at
set_option maxRecDepth 20000 in
theorem ggX7_grease_X0_remember : GoodIn wsX7_grease wsX0_remember := goodIn_r _ [15, 16, 17, 18, 19, 4, 20, 21, 22, 23, 24, 25, 26, 7, 27, 28, 29, 30, 31, 32, 10, 33, 57, 58, 59, 46, 47, 48, 49, 50, 51, 52, 53, 54, 55, 56] (by decide +kernel) (by decide +kernel)
set_option maxRecDepth 20000 in
theorem gX7_grease_X0_remember_n154 : GoodIn wsX7_grease (wsX0_remember) := ggX7_grease_X0_remember
set_option maxRecDepth 20000 in
theorem ggX7_grease_X7_put : GoodIn wsX7_grease wsX7_put := goodIn_r _ [36] (by decide +kernel) (by decide +kernel)
set_option maxRecDepth 20000 in
theorem gX7_grease_X7_put : GoodIn wsX7_grease (va_wsS RX7 161 yX7_put wsX7_put) := goodIn_app (goodIn_of _ (by decide +kernel)) ggX7_grease_X7_put
theorem dX7_grease_0 : decode cX7_grease 0 = .ok (.aload_n 0, 1) := by decide +kernel
theorem dX7_grease_1 : decode cX7_grease 1 = .ok (.getfield 19, 3) := by decide +kernel
theorem dX7_grease_4 : decode cX7_grease 4 = .ok (.iload_n 1, 1) := by decide +kernel
theorem dX7_grease_5 : decode cX7_grease 5 = .ok (.invokevirtual 110, 3) := by decide +kernel
theorem dX7_grease_8 : decode cX7_grease 8 = .ok (.ifCond .ne 5, 3) := by decide +kernel
theorem dX7_grease_11 : decode cX7_grease 11 = .ok (.iconst (-1), 1) := by decide +kernel
theorem dX7_grease_12 : decode cX7_grease 12 = .ok (.ireturn, 1) := by decide +kernel
theorem dX7_grease_13 : decode cX7_grease 13 = .ok (.aload_n 0, 1) := by decide +kernel
theorem dX7_grease_14 : decode cX7_grease 14 = .ok (.getfield 19, 3) := by decide +kernel
theorem dX7_grease_17 : decode cX7_grease 17 = .ok (.getfield 126, 3) := by decide +kernel
theorem dX7_grease_20 : decode cX7_grease 20 = .ok (.iload_n 1, 1) := by decide +kernel
theorem dX7_grease_21 : decode cX7_grease 21 = .ok (.invokestatic 106, 3) := by decide +kernel
theorem dX7_grease_24 : decode cX7_grease 24 = .ok (.istore_n 2, 1) := by decide +kernel
theorem dX7_grease_25 : decode cX7_grease 25 = .ok (.iload_n 2, 1) := by decide +kernel
theorem dX7_grease_26 : decode cX7_grease 26 = .ok (.ifCond .ne 6, 3) := by decide +kernel
theorem dX7_grease_29 : decode cX7_grease 29 = .ok (.bipush (-3), 2) := by decide +kernel
theorem dX7_grease_31 : decode cX7_grease 31 = .ok (.ireturn, 1) := by decide +kernel
theorem dX7_grease_32 : decode cX7_grease 32 = .ok (.aload_n 0, 1) := by decide +kernel
theorem dX7_grease_33 : decode cX7_grease 33 = .ok (.getfield 33, 3) := by decide +kernel
theorem dX7_grease_36 : decode cX7_grease 36 = .ok (.aload_n 0, 1) := by decide +kernel
theorem dX7_grease_37 : decode cX7_grease 37 = .ok (.getfield 19, 3) := by decide +kernel
theorem dX7_grease_40 : decode cX7_grease 40 = .ok (.invokevirtual 154, 3) := by decide +kernel
theorem dX7_grease_43 : decode cX7_grease 43 = .ok (.aload_n 0, 1) := by decide +kernel
theorem dX7_grease_44 : decode cX7_grease 44 = .ok (.getfield 19, 3) := by decide +kernel
theorem dX7_grease_47 : decode cX7_grease 47 = .ok (.getfield 126, 3) := by decide +kernel
theorem dX7_grease_50 : decode cX7_grease 50 = .ok (.iload_n 1, 1) := by decide +kernel
theorem dX7_grease_51 : decode cX7_grease 51 = .ok (.iconst 0, 1) := by decide +kernel
theorem dX7_grease_52 : decode cX7_grease 52 = .ok (.invokestatic 161, 3) := by decide +kernel
theorem dX7_grease_55 : decode cX7_grease 55 = .ok (.iload_n 2, 1) := by decide +kernel
theorem dX7_grease_56 : decode cX7_grease 56 = .ok (.ireturn, 1) := by decide +kernel
set_option maxRecDepth 20000 in
theorem ggX7_capture_X2_hasCock : GoodIn wsX7_capture wsX2_hasCock := goodIn_r _ [6, 7, 43, 44, 45, 46, 47, 48, 49, 50, 51, 52, 53] (by decide +kernel) (by decide +kernel)
set_option maxRecDepth 20000 in
theorem gX7_capture_X2_hasCock_n110 : GoodIn wsX7_capture (wsX2_hasCock) := ggX7_capture_X2_hasCock
set_option maxRecDepth 20000 in
theorem ggX7_capture_X0_remember : GoodIn wsX7_capture wsX0_remember := goodIn_r _ [11, 12, 13, 14, 15, 4, 16, 17, 18, 19, 20, 21, 22, 7, 23, 24, 25, 26, 27, 28, 29, 30, 54, 55, 56, 43, 44, 45, 46, 47, 48, 49, 50, 51, 52, 53] (by decide +kernel) (by decide +kernel)
set_option maxRecDepth 20000 in
theorem gX7_capture_X0_remember_n154 : GoodIn wsX7_capture (wsX0_remember) := ggX7_capture_X0_remember
set_option maxRecDepth 20000 in
theorem ggX7_capture_X7_bit : GoodIn wsX7_capture wsX7_bit := goodIn_r _ [33] (by decide +kernel) (by decide +kernel)
set_option maxRecDepth 20000 in
theorem gX7_capture_X7_bit : GoodIn wsX7_capture (va_wsS RX7 119 yX7_bit wsX7_bit) := goodIn_app (goodIn_of _ (by decide +kernel)) ggX7_capture_X7_bit
theorem dX7_capture_0 : decode cX7_capture 0 = .ok (.aload_n 0, 1) := by decide +kernel
theorem dX7_capture_1 : decode cX7_capture 1 = .ok (.getfield 19, 3) := by decide +kernel
theorem dX7_capture_4 : decode cX7_capture 4 = .ok (.iload_n 1, 1) := by decide +kernel
theorem dX7_capture_5 : decode cX7_capture 5 = .ok (.invokevirtual 110, 3) := by decide +kernel
theorem dX7_capture_8 : decode cX7_capture 8 = .ok (.ifCond .ne 5, 3) := by decide +kernel
theorem dX7_capture_11 : decode cX7_capture 11 = .ok (.iconst (-1), 1) := by decide +kernel
theorem dX7_capture_12 : decode cX7_capture 12 = .ok (.ireturn, 1) := by decide +kernel
theorem dX7_capture_13 : decode cX7_capture 13 = .ok (.aload_n 0, 1) := by decide +kernel
theorem dX7_capture_14 : decode cX7_capture 14 = .ok (.getfield 33, 3) := by decide +kernel
theorem dX7_capture_17 : decode cX7_capture 17 = .ok (.aload_n 0, 1) := by decide +kernel
theorem dX7_capture_18 : decode cX7_capture 18 = .ok (.getfield 19, 3) := by decide +kernel
theorem dX7_capture_21 : decode cX7_capture 21 = .ok (.invokevirtual 154, 3) := by decide +kernel
theorem dX7_capture_24 : decode cX7_capture 24 = .ok (.aload_n 0, 1) := by decide +kernel
theorem dX7_capture_25 : decode cX7_capture 25 = .ok (.getfield 19, 3) := by decide +kernel
theorem dX7_capture_28 : decode cX7_capture 28 = .ok (.dup, 1) := by decide +kernel
theorem dX7_capture_29 : decode cX7_capture 29 = .ok (.getfield 116, 3) := by decide +kernel
theorem dX7_capture_32 : decode cX7_capture 32 = .ok (.iconst 1, 1) := by decide +kernel
theorem dX7_capture_33 : decode cX7_capture 33 = .ok (.iload_n 1, 1) := by decide +kernel
theorem dX7_capture_34 : decode cX7_capture 34 = .ok (.ishl, 1) := by decide +kernel
theorem dX7_capture_35 : decode cX7_capture 35 = .ok (.ixor, 1) := by decide +kernel
theorem dX7_capture_36 : decode cX7_capture 36 = .ok (.putfield 116, 3) := by decide +kernel
theorem dX7_capture_39 : decode cX7_capture 39 = .ok (.aload_n 0, 1) := by decide +kernel
theorem dX7_capture_40 : decode cX7_capture 40 = .ok (.getfield 19, 3) := by decide +kernel
theorem dX7_capture_43 : decode cX7_capture 43 = .ok (.getfield 116, 3) := by decide +kernel
theorem dX7_capture_46 : decode cX7_capture 46 = .ok (.iload_n 1, 1) := by decide +kernel
theorem dX7_capture_47 : decode cX7_capture 47 = .ok (.invokestatic 119, 3) := by decide +kernel
theorem dX7_capture_50 : decode cX7_capture 50 = .ok (.ireturn, 1) := by decide +kernel
set_option maxRecDepth 20000 in
theorem ggX7_hold_X2_hasCock : GoodIn wsX7_hold wsX2_hasCock := goodIn_r _ [6, 7, 43, 44, 45, 46, 47, 48, 49, 50, 51, 52, 53] (by decide +kernel) (by decide +kernel)
set_option maxRecDepth 20000 in
theorem gX7_hold_X2_hasCock_n110 : GoodIn wsX7_hold (wsX2_hasCock) := ggX7_hold_X2_hasCock
set_option maxRecDepth 20000 in
theorem ggX7_hold_X0_remember : GoodIn wsX7_hold wsX0_remember := goodIn_r _ [11, 12, 13, 14, 15, 4, 16, 17, 18, 19, 20, 21, 22, 7, 23, 24, 25, 26, 27, 28, 29, 30, 54, 55, 56, 43, 44, 45, 46, 47, 48, 49, 50, 51, 52, 53] (by decide +kernel) (by decide +kernel)
set_option maxRecDepth 20000 in
theorem gX7_hold_X0_remember_n154 : GoodIn wsX7_hold (wsX0_remember) := ggX7_hold_X0_remember
set_option maxRecDepth 20000 in
theorem ggX7_hold_X7_bit : GoodIn wsX7_hold wsX7_bit := goodIn_r _ [33] (by decide +kernel) (by decide +kernel)
set_option maxRecDepth 20000 in
theorem gX7_hold_X7_bit : GoodIn wsX7_hold (va_wsS RX7 119 yX7_bit wsX7_bit) := goodIn_app (goodIn_of _ (by decide +kernel)) ggX7_hold_X7_bit
theorem dX7_hold_0 : decode cX7_hold 0 = .ok (.aload_n 0, 1) := by decide +kernel
theorem dX7_hold_1 : decode cX7_hold 1 = .ok (.getfield 19, 3) := by decide +kernel
theorem dX7_hold_4 : decode cX7_hold 4 = .ok (.iload_n 1, 1) := by decide +kernel
theorem dX7_hold_5 : decode cX7_hold 5 = .ok (.invokevirtual 110, 3) := by decide +kernel
theorem dX7_hold_8 : decode cX7_hold 8 = .ok (.ifCond .ne 5, 3) := by decide +kernel
theorem dX7_hold_11 : decode cX7_hold 11 = .ok (.iconst (-1), 1) := by decide +kernel
theorem dX7_hold_12 : decode cX7_hold 12 = .ok (.ireturn, 1) := by decide +kernel
theorem dX7_hold_13 : decode cX7_hold 13 = .ok (.aload_n 0, 1) := by decide +kernel
theorem dX7_hold_14 : decode cX7_hold 14 = .ok (.getfield 33, 3) := by decide +kernel
theorem dX7_hold_17 : decode cX7_hold 17 = .ok (.aload_n 0, 1) := by decide +kernel
theorem dX7_hold_18 : decode cX7_hold 18 = .ok (.getfield 19, 3) := by decide +kernel
theorem dX7_hold_21 : decode cX7_hold 21 = .ok (.invokevirtual 154, 3) := by decide +kernel
theorem dX7_hold_24 : decode cX7_hold 24 = .ok (.aload_n 0, 1) := by decide +kernel
theorem dX7_hold_25 : decode cX7_hold 25 = .ok (.getfield 19, 3) := by decide +kernel
theorem dX7_hold_28 : decode cX7_hold 28 = .ok (.dup, 1) := by decide +kernel
theorem dX7_hold_29 : decode cX7_hold 29 = .ok (.getfield 135, 3) := by decide +kernel
theorem dX7_hold_32 : decode cX7_hold 32 = .ok (.iconst 1, 1) := by decide +kernel
theorem dX7_hold_33 : decode cX7_hold 33 = .ok (.iload_n 1, 1) := by decide +kernel
theorem dX7_hold_34 : decode cX7_hold 34 = .ok (.ishl, 1) := by decide +kernel
theorem dX7_hold_35 : decode cX7_hold 35 = .ok (.ixor, 1) := by decide +kernel
theorem dX7_hold_36 : decode cX7_hold 36 = .ok (.putfield 135, 3) := by decide +kernel
theorem dX7_hold_39 : decode cX7_hold 39 = .ok (.aload_n 0, 1) := by decide +kernel
theorem dX7_hold_40 : decode cX7_hold 40 = .ok (.getfield 19, 3) := by decide +kernel
theorem dX7_hold_43 : decode cX7_hold 43 = .ok (.getfield 135, 3) := by decide +kernel
theorem dX7_hold_46 : decode cX7_hold 46 = .ok (.iload_n 1, 1) := by decide +kernel
theorem dX7_hold_47 : decode cX7_hold 47 = .ok (.invokestatic 119, 3) := by decide +kernel
theorem dX7_hold_50 : decode cX7_hold 50 = .ok (.ireturn, 1) := by decide +kernel
set_option maxRecDepth 20000 in
theorem ggX7_undo_X0_takeBack : GoodIn wsX7_undo wsX0_takeBack := goodIn_r _ [6, 7, 8, 9, 10, 11, 12, 13, 14, 15, 16, 17, 18, 19, 20, 21, 22, 23, 24, 25, 26, 27, 37, 38, 39, 40, 41, 42, 43, 44, 45, 46, 47, 48, 49, 50] (by decide +kernel) (by decide +kernel)
set_option maxRecDepth 20000 in
theorem gX7_undo_X0_takeBack_n168 : GoodIn wsX7_undo (wsX0_takeBack) := ggX7_undo_X0_takeBack
theorem dX7_undo_0 : decode cX7_undo 0 = .ok (.aload_n 0, 1) := by decide +kernel
theorem dX7_undo_1 : decode cX7_undo 1 = .ok (.getfield 33, 3) := by decide +kernel
theorem dX7_undo_4 : decode cX7_undo 4 = .ok (.aload_n 0, 1) := by decide +kernel
theorem dX7_undo_5 : decode cX7_undo 5 = .ok (.getfield 19, 3) := by decide +kernel
theorem dX7_undo_8 : decode cX7_undo 8 = .ok (.invokevirtual 168, 3) := by decide +kernel
theorem dX7_undo_11 : decode cX7_undo 11 = .ok (.ireturn, 1) := by decide +kernel
set_option maxRecDepth 20000 in
theorem ggX7_under_X1_hasWind : GoodIn wsX7_under wsX1_hasWind := goodIn_r _ [6, 7, 57, 58, 59, 60] (by decide +kernel) (by decide +kernel)
set_option maxRecDepth 20000 in
theorem gX7_under_X1_hasWind_n138 : GoodIn wsX7_under (wsX1_hasWind) := ggX7_under_X1_hasWind
set_option maxRecDepth 20000 in
theorem ggX7_under_X1_brookUnder : GoodIn wsX7_under wsX1_brookUnder := goodIn_r _ [10, 11, 12, 13, 4, 14, 15, 16, 17, 18, 19, 20, 21, 22, 23, 24, 25, 26, 27, 28, 29, 30, 31, 32, 33, 34, 35, 36, 57, 58, 59, 60, 46, 47, 48, 49, 50, 51, 52, 53, 54, 55, 56] (by decide +kernel) (by decide +kernel)
set_option maxRecDepth 20000 in
theorem gX7_under_X1_brookUnder_n172 : GoodIn wsX7_under (wsX1_brookUnder) := ggX7_under_X1_brookUnder
theorem dX7_under_0 : decode cX7_under 0 = .ok (.aload_n 0, 1) := by decide +kernel
theorem dX7_under_1 : decode cX7_under 1 = .ok (.getfield 26, 3) := by decide +kernel
theorem dX7_under_4 : decode cX7_under 4 = .ok (.iload_n 1, 1) := by decide +kernel
theorem dX7_under_5 : decode cX7_under 5 = .ok (.invokevirtual 138, 3) := by decide +kernel
theorem dX7_under_8 : decode cX7_under 8 = .ok (.ifCond .eq 26, 3) := by decide +kernel
theorem dX7_under_11 : decode cX7_under 11 = .ok (.aload_n 0, 1) := by decide +kernel
theorem dX7_under_12 : decode cX7_under 12 = .ok (.getfield 26, 3) := by decide +kernel
theorem dX7_under_15 : decode cX7_under 15 = .ok (.aload_n 0, 1) := by decide +kernel
theorem dX7_under_16 : decode cX7_under 16 = .ok (.getfield 19, 3) := by decide +kernel
theorem dX7_under_19 : decode cX7_under 19 = .ok (.iload_n 1, 1) := by decide +kernel
theorem dX7_under_20 : decode cX7_under 20 = .ok (.aload_n 0, 1) := by decide +kernel
theorem dX7_under_21 : decode cX7_under 21 = .ok (.getfield 19, 3) := by decide +kernel
theorem dX7_under_24 : decode cX7_under 24 = .ok (.getfield 135, 3) := by decide +kernel
theorem dX7_under_27 : decode cX7_under 27 = .ok (.iconst 0, 1) := by decide +kernel
theorem dX7_under_28 : decode cX7_under 28 = .ok (.invokevirtual 172, 3) := by decide +kernel
theorem dX7_under_31 : decode cX7_under 31 = .ok (.goto 4, 3) := by decide +kernel
theorem dX7_under_34 : decode cX7_under 34 = .ok (.iconst (-1), 1) := by decide +kernel
theorem dX7_under_35 : decode cX7_under 35 = .ok (.ireturn, 1) := by decide +kernel
set_option maxRecDepth 20000 in
theorem ggX7_year_X7_isParish : GoodIn wsX7_year wsX7_isParish := goodIn_r _ [6] (by decide +kernel) (by decide +kernel)
set_option maxRecDepth 20000 in
theorem gX7_year_X7_isParish : GoodIn wsX7_year (va_wsS RX7 175 yX7_isParish wsX7_isParish) := goodIn_app (goodIn_of _ (by decide +kernel)) ggX7_year_X7_isParish
set_option maxRecDepth 20000 in
theorem ggX7_year_X1_yearOf : GoodIn wsX7_year wsX1_yearOf := goodIn_r _ [10, 11, 12, 13, 14, 15, 8, 16, 17, 18, 19, 20, 21, 22, 23, 5, 24, 25, 26, 27, 28, 29, 30, 31, 32, 33, 34, 35, 36, 37, 38, 39, 40, 41, 51, 52, 53, 54, 55, 56, 57, 58, 59, 60, 61, 62, 63, 64, 65] (by decide +kernel) (by decide +kernel)
set_option maxRecDepth 20000 in
theorem gX7_year_X1_yearOf_n178 : GoodIn wsX7_year (wsX1_yearOf) := ggX7_year_X1_yearOf
theorem dX7_year_0 : decode cX7_year 0 = .ok (.iload_n 1, 1) := by decide +kernel
theorem dX7_year_1 : decode cX7_year 1 = .ok (.invokestatic 175, 3) := by decide +kernel
theorem dX7_year_4 : decode cX7_year 4 = .ok (.ifCond .eq 19, 3) := by decide +kernel
theorem dX7_year_7 : decode cX7_year 7 = .ok (.aload_n 0, 1) := by decide +kernel
theorem dX7_year_8 : decode cX7_year 8 = .ok (.getfield 26, 3) := by decide +kernel
theorem dX7_year_11 : decode cX7_year 11 = .ok (.aload_n 0, 1) := by decide +kernel
theorem dX7_year_12 : decode cX7_year 12 = .ok (.getfield 19, 3) := by decide +kernel
theorem dX7_year_15 : decode cX7_year 15 = .ok (.iload_n 1, 1) := by decide +kernel
theorem dX7_year_16 : decode cX7_year 16 = .ok (.iconst 0, 1) := by decide +kernel
theorem dX7_year_17 : decode cX7_year 17 = .ok (.invokevirtual 178, 3) := by decide +kernel
theorem dX7_year_20 : decode cX7_year 20 = .ok (.goto 5, 3) := by decide +kernel
theorem dX7_year_23 : decode cX7_year 23 = .ok (.bipush (-2), 2) := by decide +kernel
theorem dX7_year_25 : decode cX7_year 25 = .ok (.ireturn, 1) := by decide +kernel
set_option maxRecDepth 20000 in
theorem ggX7_placing_X7_isParish : GoodIn wsX7_placing wsX7_isParish := goodIn_r _ [7] (by decide +kernel) (by decide +kernel)
set_option maxRecDepth 20000 in
theorem gX7_placing_X7_isParish : GoodIn wsX7_placing (va_wsS RX7 175 yX7_isParish wsX7_isParish) := goodIn_app (goodIn_of _ (by decide +kernel)) ggX7_placing_X7_isParish
set_option maxRecDepth 20000 in
theorem ggX7_placing_X3_seek : GoodIn wsX7_placing wsX3_seek := goodIn_r _ [11, 12, 13, 14, 15, 16, 17, 18, 19, 20, 21, 22, 23, 24, 25, 26, 27, 28, 29, 6, 30, 31, 32, 33, 9, 34, 35, 36, 37, 38, 39, 40, 41, 42, 43, 44, 45, 46, 47, 48, 49, 50, 51, 52, 53, 54, 55, 56, 57, 58, 59, 60, 61, 62, 63, 64, 65, 66, 67, 68, 69, 70, 71, 72, 82, 83, 84, 85, 86, 87, 88, 89, 90, 91, 92, 93, 94, 95, 96, 97, 98, 99, 100, 101] (by decide +kernel) (by decide +kernel)
set_option maxRecDepth 20000 in
theorem gX7_placing_X3_seek_n182 : GoodIn wsX7_placing (wsX3_seek) := ggX7_placing_X3_seek
theorem dX7_placing_0 : decode cX7_placing 0 = .ok (.iload_n 1, 1) := by decide +kernel
theorem dX7_placing_1 : decode cX7_placing 1 = .ok (.invokestatic 175, 3) := by decide +kernel
theorem dX7_placing_4 : decode cX7_placing 4 = .ok (.ifCond .eq 12, 3) := by decide +kernel
theorem dX7_placing_7 : decode cX7_placing 7 = .ok (.iload_n 2, 1) := by decide +kernel
theorem dX7_placing_8 : decode cX7_placing 8 = .ok (.ifCond .lt 8, 3) := by decide +kernel
theorem dX7_placing_11 : decode cX7_placing 11 = .ok (.iload_n 2, 1) := by decide +kernel
theorem dX7_placing_12 : decode cX7_placing 12 = .ok (.iconst 3, 1) := by decide +kernel
theorem dX7_placing_13 : decode cX7_placing 13 = .ok (.if_icmp .le 6, 3) := by decide +kernel
theorem dX7_placing_16 : decode cX7_placing 16 = .ok (.bipush (-2), 2) := by decide +kernel
theorem dX7_placing_18 : decode cX7_placing 18 = .ok (.ireturn, 1) := by decide +kernel
theorem dX7_placing_19 : decode cX7_placing 19 = .ok (.aload_n 0, 1) := by decide +kernel
theorem dX7_placing_20 : decode cX7_placing 20 = .ok (.getfield 54, 3) := by decide +kernel
theorem dX7_placing_23 : decode cX7_placing 23 = .ok (.aload_n 0, 1) := by decide +kernel
theorem dX7_placing_24 : decode cX7_placing 24 = .ok (.getfield 19, 3) := by decide +kernel
theorem dX7_placing_27 : decode cX7_placing 27 = .ok (.aload_n 0, 1) := by decide +kernel
theorem dX7_placing_28 : decode cX7_placing 28 = .ok (.getfield 26, 3) := by decide +kernel
theorem dX7_placing_31 : decode cX7_placing 31 = .ok (.iload_n 1, 1) := by decide +kernel
theorem dX7_placing_32 : decode cX7_placing 32 = .ok (.invokevirtual 182, 3) := by decide +kernel
theorem dX7_placing_35 : decode cX7_placing 35 = .ok (.iload_n 2, 1) := by decide +kernel
theorem dX7_placing_36 : decode cX7_placing 36 = .ok (.tableswitch 52 0 2 #[28, 36, 44], 28) := by decide +kernel
theorem dX7_placing_64 : decode cX7_placing 64 = .ok (.aload_n 0, 1) := by decide +kernel
theorem dX7_placing_65 : decode cX7_placing 65 = .ok (.getfield 54, 3) := by decide +kernel
theorem dX7_placing_68 : decode cX7_placing 68 = .ok (.getfield 186, 3) := by decide +kernel
theorem dX7_placing_71 : decode cX7_placing 71 = .ok (.ireturn, 1) := by decide +kernel
theorem dX7_placing_72 : decode cX7_placing 72 = .ok (.aload_n 0, 1) := by decide +kernel
