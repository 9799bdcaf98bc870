theorem dX8_init_20 : decode cX8_init 20 = .ok (.aload_n 0, 1) := by decide +kernel
theorem dX8_init_21 : decode cX8_init 21 = .ok (.bipush 12, 2) := by decide +kernel
theorem dX8_init_23 : decode cX8_init 23 = .ok (.newarray .int, 2) := by decide +kernel
theorem dX8_init_25 : decode cX8_init 25 = .ok (.putfield 16, 3) := by decide +kernel
theorem dX8_init_28 : decode cX8_init 28 = .ok (.aload_n 0, 1) := by decide +kernel
theorem dX8_init_29 : decode cX8_init 29 = .ok (.bipush 54, 2) := by decide +kernel
theorem dX8_init_31 : decode cX8_init 31 = .ok (.newarray .int, 2) := by decide +kernel
theorem dX8_init_33 : decode cX8_init 33 = .ok (.putfield 19, 3) := by decide +kernel
theorem dX8_init_36 : decode cX8_init 36 = .ok (.aload_n 0, 1) := by decide +kernel
theorem dX8_init_37 : decode cX8_init 37 = .ok (.bipush 27, 2) := by decide +kernel
theorem dX8_init_39 : decode cX8_init 39 = .ok (.newarray .int, 2) := by decide +kernel
theorem dX8_init_41 : decode cX8_init 41 = .ok (.putfield 22, 3) := by decide +kernel
theorem dX8_init_44 : decode cX8_init 44 = .ok (.aload_n 0, 1) := by decide +kernel
theorem dX8_init_45 : decode cX8_init 45 = .ok (.bipush 6, 2) := by decide +kernel
theorem dX8_init_47 : decode cX8_init 47 = .ok (.newarray .int, 2) := by decide +kernel
theorem dX8_init_49 : decode cX8_init 49 = .ok (.putfield 25, 3) := by decide +kernel
theorem dX8_init_52 : decode cX8_init 52 = .ok (.aload_n 0, 1) := by decide +kernel
theorem dX8_init_53 : decode cX8_init 53 = .ok (.bipush 6, 2) := by decide +kernel
theorem dX8_init_55 : decode cX8_init 55 = .ok (.newarray .int, 2) := by decide +kernel
theorem dX8_init_57 : decode cX8_init 57 = .ok (.putfield 28, 3) := by decide +kernel
theorem dX8_init_60 : decode cX8_init 60 = .ok (.aload_n 0, 1) := by decide +kernel
theorem dX8_init_61 : decode cX8_init 61 = .ok (.bipush 12, 2) := by decide +kernel
theorem dX8_init_63 : decode cX8_init 63 = .ok (.newarray .int, 2) := by decide +kernel
theorem dX8_init_65 : decode cX8_init 65 = .ok (.putfield 31, 3) := by decide +kernel
theorem dX8_init_68 : decode cX8_init 68 = .ok (.aload_n 0, 1) := by decide +kernel
theorem dX8_init_69 : decode cX8_init 69 = .ok (.bipush 64, 2) := by decide +kernel
theorem dX8_init_71 : decode cX8_init 71 = .ok (.newarray .int, 2) := by decide +kernel
theorem dX8_init_73 : decode cX8_init 73 = .ok (.putfield 34, 3) := by decide +kernel
theorem dX8_init_76 : decode cX8_init 76 = .ok (.aload_n 0, 1) := by decide +kernel
theorem dX8_init_77 : decode cX8_init 77 = .ok (.sipush 378, 3) := by decide +kernel
theorem dX8_init_80 : decode cX8_init 80 = .ok (.newarray .int, 2) := by decide +kernel
theorem dX8_init_82 : decode cX8_init 82 = .ok (.putfield 37, 3) := by decide +kernel
theorem dX8_init_85 : decode cX8_init 85 = .ok (.aload_n 0, 1) := by decide +kernel
theorem dX8_init_86 : decode cX8_init 86 = .ok (.bipush 6, 2) := by decide +kernel
theorem dX8_init_88 : decode cX8_init 88 = .ok (.newarray .int, 2) := by decide +kernel
theorem dX8_init_90 : decode cX8_init 90 = .ok (.putfield 40, 3) := by decide +kernel
theorem dX8_init_93 : decode cX8_init 93 = .ok (.aload_n 0, 1) := by decide +kernel
theorem dX8_init_94 : decode cX8_init 94 = .ok (.bipush 6, 2) := by decide +kernel
theorem dX8_init_96 : decode cX8_init 96 = .ok (.newarray .int, 2) := by decide +kernel
theorem dX8_init_98 : decode cX8_init 98 = .ok (.putfield 43, 3) := by decide +kernel
theorem dX8_init_101 : decode cX8_init 101 = .ok (.aload_n 0, 1) := by decide +kernel
theorem dX8_init_102 : decode cX8_init 102 = .ok (.iconst 2, 1) := by decide +kernel
theorem dX8_init_103 : decode cX8_init 103 = .ok (.newarray .boolean, 2) := by decide +kernel
theorem dX8_init_105 : decode cX8_init 105 = .ok (.putfield 46, 3) := by decide +kernel
theorem dX8_init_108 : decode cX8_init 108 = .ok (.aload_n 0, 1) := by decide +kernel
theorem dX8_init_109 : decode cX8_init 109 = .ok (.bipush 54, 2) := by decide +kernel
theorem dX8_init_111 : decode cX8_init 111 = .ok (.newarray .int, 2) := by decide +kernel
theorem dX8_init_113 : decode cX8_init 113 = .ok (.putfield 50, 3) := by decide +kernel
theorem dX8_init_116 : decode cX8_init 116 = .ok (.aload_n 0, 1) := by decide +kernel
theorem dX8_init_117 : decode cX8_init 117 = .ok (.iconst 0, 1) := by decide +kernel
theorem dX8_init_118 : decode cX8_init 118 = .ok (.putfield 53, 3) := by decide +kernel
theorem dX8_init_121 : decode cX8_init 121 = .ok (.return_, 1) := by decide +kernel
theorem dX8_in_0 : decode cX8_in 0 = .ok (.lload_n 0, 1) := by decide +kernel
theorem dX8_in_1 : decode cX8_in 1 = .ok (.lload_n 2, 1) := by decide +kernel
theorem dX8_in_2 : decode cX8_in 2 = .ok (.lcmp, 1) := by decide +kernel
theorem dX8_in_3 : decode cX8_in 3 = .ok (.ifCond .lt 14, 3) := by decide +kernel
theorem dX8_in_6 : decode cX8_in 6 = .ok (.lload_n 0, 1) := by decide +kernel
theorem dX8_in_7 : decode cX8_in 7 = .ok (.lload 4, 2) := by decide +kernel
theorem dX8_in_9 : decode cX8_in 9 = .ok (.lcmp, 1) := by decide +kernel
theorem dX8_in_10 : decode cX8_in 10 = .ok (.ifCond .gt 7, 3) := by decide +kernel
theorem dX8_in_13 : decode cX8_in 13 = .ok (.iconst 1, 1) := by decide +kernel
theorem dX8_in_14 : decode cX8_in 14 = .ok (.goto 4, 3) := by decide +kernel
theorem dX8_in_17 : decode cX8_in 17 = .ok (.iconst 0, 1) := by decide +kernel
theorem dX8_in_18 : decode cX8_in 18 = .ok (.ireturn, 1) := by decide +kernel
theorem dX8_has_0 : decode cX8_has 0 = .ok (.iload_n 0, 1) := by decide +kernel
theorem dX8_has_1 : decode cX8_has 1 = .ok (.iload_n 1, 1) := by decide +kernel
theorem dX8_has_2 : decode cX8_has 2 = .ok (.ishr, 1) := by decide +kernel
theorem dX8_has_3 : decode cX8_has 3 = .ok (.iconst 1, 1) := by decide +kernel
theorem dX8_has_4 : decode cX8_has 4 = .ok (.iand, 1) := by decide +kernel
theorem dX8_has_5 : decode cX8_has 5 = .ok (.iconst 1, 1) := by decide +kernel
theorem dX8_has_6 : decode cX8_has 6 = .ok (.if_icmp .ne 7, 3) := by decide +kernel
theorem dX8_has_9 : decode cX8_has 9 = .ok (.iconst 1, 1) := by decide +kernel
theorem dX8_has_10 : decode cX8_has 10 = .ok (.goto 4, 3) := by decide +kernel
theorem dX8_has_13 : decode cX8_has 13 = .ok (.iconst 0, 1) := by decide +kernel
theorem dX8_has_14 : decode cX8_has 14 = .ok (.ireturn, 1) := by decide +kernel
theorem dX8_ones_0 : decode cX8_ones 0 = .ok (.iconst 0, 1) := by decide +kernel
theorem dX8_ones_1 : decode cX8_ones 1 = .ok (.istore_n 1, 1) := by decide +kernel
theorem dX8_ones_2 : decode cX8_ones 2 = .ok (.iconst 0, 1) := by decide +kernel
theorem dX8_ones_3 : decode cX8_ones 3 = .ok (.istore_n 2, 1) := by decide +kernel
theorem dX8_ones_4 : decode cX8_ones 4 = .ok (.iload_n 2, 1) := by decide +kernel
theorem dX8_ones_5 : decode cX8_ones 5 = .ok (.bipush 10, 2) := by decide +kernel
theorem dX8_ones_7 : decode cX8_ones 7 = .ok (.if_icmp .ge 17, 3) := by decide +kernel
theorem dX8_ones_10 : decode cX8_ones 10 = .ok (.iload_n 1, 1) := by decide +kernel
theorem dX8_ones_11 : decode cX8_ones 11 = .ok (.iload_n 0, 1) := by decide +kernel
theorem dX8_ones_12 : decode cX8_ones 12 = .ok (.iload_n 2, 1) := by decide +kernel
theorem dX8_ones_13 : decode cX8_ones 13 = .ok (.ishr, 1) := by decide +kernel
theorem dX8_ones_14 : decode cX8_ones 14 = .ok (.iconst 1, 1) := by decide +kernel
theorem dX8_ones_15 : decode cX8_ones 15 = .ok (.iand, 1) := by decide +kernel
theorem dX8_ones_16 : decode cX8_ones 16 = .ok (.iadd, 1) := by decide +kernel
theorem dX8_ones_17 : decode cX8_ones 17 = .ok (.istore_n 1, 1) := by decide +kernel
theorem dX8_ones_18 : decode cX8_ones 18 = .ok (.iinc 2 1, 3) := by decide +kernel
theorem dX8_ones_21 : decode cX8_ones 21 = .ok (.goto (-17), 3) := by decide +kernel
theorem dX8_ones_24 : decode cX8_ones 24 = .ok (.iload_n 1, 1) := by decide +kernel
theorem dX8_ones_25 : decode cX8_ones 25 = .ok (.ireturn, 1) := by decide +kernel
set_option maxRecDepth 20000 in
theorem ggX8_write_X8_in : GoodIn wsX8_write wsX8_in := goodIn_r _ [7] (by decide +kernel) (by decide +kernel)
set_option maxRecDepth 20000 in
theorem gX8_write_X8_in : GoodIn wsX8_write (va_wsS RX8 59 yX8_in wsX8_in) := goodIn_app (goodIn_of _ (by decide +kernel)) ggX8_write_X8_in
theorem dX8_write_0 : decode cX8_write 0 = .ok (.iload_n 1, 1) := by decide +kernel
theorem dX8_write_1 : decode cX8_write 1 = .ok (.i2l, 1) := by decide +kernel
theorem dX8_write_2 : decode cX8_write 2 = .ok (.lconst 0, 1) := by decide +kernel
theorem dX8_write_3 : decode cX8_write 3 = .ok (.ldc2_w 57, 3) := by decide +kernel
theorem dX8_write_6 : decode cX8_write 6 = .ok (.invokestatic 59, 3) := by decide +kernel
theorem dX8_write_9 : decode cX8_write 9 = .ok (.ifCond .ne 6, 3) := by decide +kernel
theorem dX8_write_12 : decode cX8_write 12 = .ok (.bipush (-2), 2) := by decide +kernel
theorem dX8_write_14 : decode cX8_write 14 = .ok (.ireturn, 1) := by decide +kernel
theorem dX8_write_15 : decode cX8_write 15 = .ok (.aload_n 0, 1) := by decide +kernel
theorem dX8_write_16 : decode cX8_write 16 = .ok (.getfield 63, 3) := by decide +kernel
theorem dX8_write_19 : decode cX8_write 19 = .ok (.bipush 64, 2) := by decide +kernel
theorem dX8_write_21 : decode cX8_write 21 = .ok (.if_icmp .ne 6, 3) := by decide +kernel
theorem dX8_write_24 : decode cX8_write 24 = .ok (.bipush (-4), 2) := by decide +kernel
theorem dX8_write_26 : decode cX8_write 26 = .ok (.ireturn, 1) := by decide +kernel
theorem dX8_write_27 : decode cX8_write 27 = .ok (.aload_n 0, 1) := by decide +kernel
theorem dX8_write_28 : decode cX8_write 28 = .ok (.getfield 34, 3) := by decide +kernel
theorem dX8_write_31 : decode cX8_write 31 = .ok (.aload_n 0, 1) := by decide +kernel
theorem dX8_write_32 : decode cX8_write 32 = .ok (.getfield 63, 3) := by decide +kernel
theorem dX8_write_35 : decode cX8_write 35 = .ok (.iload_n 1, 1) := by decide +kernel
theorem dX8_write_36 : decode cX8_write 36 = .ok (.iastore, 1) := by decide +kernel
theorem dX8_write_37 : decode cX8_write 37 = .ok (.aload_n 0, 1) := by decide +kernel
theorem dX8_write_38 : decode cX8_write 38 = .ok (.dup, 1) := by decide +kernel
theorem dX8_write_39 : decode cX8_write 39 = .ok (.getfield 63, 3) := by decide +kernel
theorem dX8_write_42 : decode cX8_write 42 = .ok (.iconst 1, 1) := by decide +kernel
theorem dX8_write_43 : decode cX8_write 43 = .ok (.iadd, 1) := by decide +kernel
theorem dX8_write_44 : decode cX8_write 44 = .ok (.putfield 63, 3) := by decide +kernel
theorem dX8_write_47 : decode cX8_write 47 = .ok (.aload_n 0, 1) := by decide +kernel
theorem dX8_write_48 : decode cX8_write 48 = .ok (.getfield 63, 3) := by decide +kernel
theorem dX8_write_51 : decode cX8_write 51 = .ok (.ireturn, 1) := by decide +kernel
theorem dX8_wipe_0 : decode cX8_wipe 0 = .ok (.aload_n 0, 1) := by decide +kernel
theorem dX8_wipe_1 : decode cX8_wipe 1 = .ok (.getfield 63, 3) := by decide +kernel
theorem dX8_wipe_4 : decode cX8_wipe 4 = .ok (.istore_n 1, 1) := by decide +kernel
theorem dX8_wipe_5 : decode cX8_wipe 5 = .ok (.aload_n 0, 1) := by decide +kernel
theorem dX8_wipe_6 : decode cX8_wipe 6 = .ok (.iconst 0, 1) := by decide +kernel
theorem dX8_wipe_7 : decode cX8_wipe 7 = .ok (.putfield 63, 3) := by decide +kernel
theorem dX8_wipe_10 : decode cX8_wipe 10 = .ok (.iload_n 1, 1) := by decide +kernel
theorem dX8_wipe_11 : decode cX8_wipe 11 = .ok (.ireturn, 1) := by decide +kernel
set_option maxRecDepth 20000 in
theorem ggX8_figure_X8_in : GoodIn wsX8_figure wsX8_in := goodIn_r _ [8] (by decide +kernel) (by decide +kernel)
set_option maxRecDepth 20000 in
theorem gX8_figure_X8_in : GoodIn wsX8_figure (va_wsS RX8 59 yX8_in wsX8_in) := goodIn_app (goodIn_of _ (by decide +kernel)) ggX8_figure_X8_in
theorem dX8_figure_0 : decode cX8_figure 0 = .ok (.aload_n 0, 1) := by decide +kernel
theorem dX8_figure_1 : decode cX8_figure 1 = .ok (.getfield 66, 3) := by decide +kernel
theorem dX8_figure_4 : decode cX8_figure 4 = .ok (.bipush (-9), 2) := by decide +kernel
theorem dX8_figure_6 : decode cX8_figure 6 = .ok (.if_icmp .ne 29, 3) := by decide +kernel
theorem dX8_figure_9 : decode cX8_figure 9 = .ok (.aload_n 0, 1) := by decide +kernel
theorem dX8_figure_10 : decode cX8_figure 10 = .ok (.getfield 69, 3) := by decide +kernel
theorem dX8_figure_13 : decode cX8_figure 13 = .ok (.aload_n 0, 1) := by decide +kernel
theorem dX8_figure_14 : decode cX8_figure 14 = .ok (.getfield 63, 3) := by decide +kernel
theorem dX8_figure_17 : decode cX8_figure 17 = .ok (.if_icmp .ge 18, 3) := by decide +kernel
theorem dX8_figure_20 : decode cX8_figure 20 = .ok (.aload_n 0, 1) := by decide +kernel
theorem dX8_figure_21 : decode cX8_figure 21 = .ok (.getfield 34, 3) := by decide +kernel
theorem dX8_figure_24 : decode cX8_figure 24 = .ok (.aload_n 0, 1) := by decide +kernel
theorem dX8_figure_25 : decode cX8_figure 25 = .ok (.getfield 69, 3) := by decide +kernel
theorem dX8_figure_28 : decode cX8_figure 28 = .ok (.iaload, 1) := by decide +kernel
theorem dX8_figure_29 : decode cX8_figure 29 = .ok (.bipush 48, 2) := by decide +kernel
theorem dX8_figure_31 : decode cX8_figure 31 = .ok (.isub, 1) := by decide +kernel
theorem dX8_figure_32 : decode cX8_figure 32 = .ok (.goto 5, 3) := by decide +kernel
theorem dX8_figure_35 : decode cX8_figure 35 = .ok (.bipush (-9), 2) := by decide +kernel
theorem dX8_figure_37 : decode cX8_figure 37 = .ok (.istore_n 3, 1) := by decide +kernel
theorem dX8_figure_38 : decode cX8_figure 38 = .ok (.iload_n 3, 1) := by decide +kernel
theorem dX8_figure_39 : decode cX8_figure 39 = .ok (.i2l, 1) := by decide +kernel
theorem dX8_figure_40 : decode cX8_figure 40 = .ok (.iload_n 1, 1) := by decide +kernel
theorem dX8_figure_41 : decode cX8_figure 41 = .ok (.i2l, 1) := by decide +kernel
theorem dX8_figure_42 : decode cX8_figure 42 = .ok (.iload_n 2, 1) := by decide +kernel
theorem dX8_figure_43 : decode cX8_figure 43 = .ok (.i2l, 1) := by decide +kernel
theorem dX8_figure_44 : decode cX8_figure 44 = .ok (.invokestatic 59, 3) := by decide +kernel
theorem dX8_figure_47 : decode cX8_figure 47 = .ok (.ifCond .ne 29, 3) := by decide +kernel
theorem dX8_figure_50 : decode cX8_figure 50 = .ok (.aload_n 0, 1) := by decide +kernel
theorem dX8_figure_51 : decode cX8_figure 51 = .ok (.aload_n 0, 1) := by decide +kernel
theorem dX8_figure_52 : decode cX8_figure 52 = .ok (.getfield 66, 3) := by decide +kernel
theorem dX8_figure_55 : decode cX8_figure 55 = .ok (.bipush (-9), 2) := by decide +kernel
theorem dX8_figure_57 : decode cX8_figure 57 = .ok (.if_icmp .ne 10, 3) := by decide +kernel
theorem dX8_figure_60 : decode cX8_figure 60 = .ok (.aload_n 0, 1) := by decide +kernel
theorem dX8_figure_61 : decode cX8_figure 61 = .ok (.getfield 69, 3) := by decide +kernel
theorem dX8_figure_64 : decode cX8_figure 64 = .ok (.goto 7, 3) := by decide +kernel
theorem dX8_figure_67 : decode cX8_figure 67 = .ok (.aload_n 0, 1) := by decide +kernel
theorem dX8_figure_68 : decode cX8_figure 68 = .ok (.getfield 66, 3) := by decide +kernel
theorem dX8_figure_71 : decode cX8_figure 71 = .ok (.putfield 66, 3) := by decide +kernel
theorem dX8_figure_74 : decode cX8_figure 74 = .ok (.iload_n 1, 1) := by decide +kernel
theorem dX8_figure_75 : decode cX8_figure 75 = .ok (.ireturn, 1) := by decide +kernel
theorem dX8_figure_76 : decode cX8_figure 76 = .ok (.aload_n 0, 1) := by decide +kernel
theorem dX8_figure_77 : decode cX8_figure 77 = .ok (.dup, 1) := by decide +kernel
theorem dX8_figure_78 : decode cX8_figure 78 = .ok (.getfield 69, 3) := by decide +kernel
theorem dX8_figure_81 : decode cX8_figure 81 = .ok (.iconst 1, 1) := by decide +kernel
theorem dX8_figure_82 : decode cX8_figure 82 = .ok (.iadd, 1) := by decide +kernel
theorem dX8_figure_83 : decode cX8_figure 83 = .ok (.putfield 69, 3) := by decide +kernel
theorem dX8_figure_86 : decode cX8_figure 86 = .ok (.iload_n 3, 1) := by decide +kernel
theorem dX8_figure_87 : decode cX8_figure 87 = .ok (.ireturn, 1) := by decide +kernel
set_option maxRecDepth 20000 in
theorem ggX8_figureOf_X8_in : GoodIn wsX8_figureOf wsX8_in := goodIn_r _ [9] (by decide +kernel) (by decide +kernel)
set_option maxRecDepth 20000 in
theorem gX8_figureOf_X8_in : GoodIn wsX8_figureOf (va_wsS RX8 59 yX8_in wsX8_in) := goodIn_app (goodIn_of _ (by decide +kernel)) ggX8_figureOf_X8_in
set_option maxRecDepth 20000 in
theorem ggX8_figureOf_X8_has : GoodIn wsX8_figureOf wsX8_has := goodIn_r _ [12] (by decide +kernel) (by decide +kernel)
set_option maxRecDepth 20000 in
theorem gX8_figureOf_X8_has : GoodIn wsX8_figureOf (va_wsS RX8 74 yX8_has wsX8_has) := goodIn_app (goodIn_of _ (by decide +kernel)) ggX8_figureOf_X8_has
theorem dX8_figureOf_0 : decode cX8_figureOf 0 = .ok (.aload_n 0, 1) := by decide +kernel
theorem dX8_figureOf_1 : decode cX8_figureOf 1 = .ok (.getfield 66, 3) := by decide +kernel
theorem dX8_figureOf_4 : decode cX8_figureOf 4 = .ok (.bipush (-9), 2) := by decide +kernel
theorem dX8_figureOf_6 : decode cX8_figureOf 6 = .ok (.if_icmp .ne 29, 3) := by decide +kernel
theorem dX8_figureOf_9 : decode cX8_figureOf 9 = .ok (.aload_n 0, 1) := by decide +kernel
theorem dX8_figureOf_10 : decode cX8_figureOf 10 = .ok (.getfield 69, 3) := by decide +kernel
theorem dX8_figureOf_13 : decode cX8_figureOf 13 = .ok (.aload_n 0, 1) := by decide +kernel
theorem dX8_figureOf_14 : decode cX8_figureOf 14 = .ok (.getfield 63, 3) := by decide +kernel
theorem dX8_figureOf_17 : decode cX8_figureOf 17 = .ok (.if_icmp .ge 18, 3) := by decide +kernel
theorem dX8_figureOf_20 : decode cX8_figureOf 20 = .ok (.aload_n 0, 1) := by decide +kernel
theorem dX8_figureOf_21 : decode cX8_figureOf 21 = .ok (.getfield 34, 3) := by decide +kernel
theorem dX8_figureOf_24 : decode cX8_figureOf 24 = .ok (.aload_n 0, 1) := by decide +kernel
theorem dX8_figureOf_25 : decode cX8_figureOf 25 = .ok (.getfield 69, 3) := by decide +kernel
theorem dX8_figureOf_28 : decode cX8_figureOf 28 = .ok (.iaload, 1) := by decide +kernel
theorem dX8_figureOf_29 : decode cX8_figureOf 29 = .ok (.bipush 48, 2) := by decide +kernel
theorem dX8_figureOf_31 : decode cX8_figureOf 31 = .ok (.isub, 1) := by decide +kernel
theorem dX8_figureOf_32 : decode cX8_figureOf 32 = .ok (.goto 5, 3) := by decide +kernel
theorem dX8_figureOf_35 : decode cX8_figureOf 35 = .ok (.bipush (-9), 2) := by decide +kernel
theorem dX8_figureOf_37 : decode cX8_figureOf 37 = .ok (.istore_n 2, 1) := by decide +kernel
theorem dX8_figureOf_38 : decode cX8_figureOf 38 = .ok (.iload_n 2, 1) := by decide +kernel
theorem dX8_figureOf_39 : decode cX8_figureOf 39 = .ok (.i2l, 1) := by decide +kernel
theorem dX8_figureOf_40 : decode cX8_figureOf 40 = .ok (.lconst 0, 1) := by decide +kernel
theorem dX8_figureOf_41 : decode cX8_figureOf 41 = .ok (.ldc2_w 72, 3) := by decide +kernel
theorem dX8_figureOf_44 : decode cX8_figureOf 44 = .ok (.invokestatic 59, 3) := by decide +kernel
theorem dX8_figureOf_47 : decode cX8_figureOf 47 = .ok (.ifCond .eq 11, 3) := by decide +kernel
theorem dX8_figureOf_50 : decode cX8_figureOf 50 = .ok (.iload_n 1, 1) := by decide +kernel
theorem dX8_figureOf_51 : decode cX8_figureOf 51 = .ok (.iload_n 2, 1) := by decide +kernel
theorem dX8_figureOf_52 : decode cX8_figureOf 52 = .ok (.invokestatic 74, 3) := by decide +kernel
theorem dX8_figureOf_55 : decode cX8_figureOf 55 = .ok (.ifCond .ne 29, 3) := by decide +kernel
theorem dX8_figureOf_58 : decode cX8_figureOf 58 = .ok (.aload_n 0, 1) := by decide +kernel
theorem dX8_figureOf_59 : decode cX8_figureOf 59 = .ok (.aload_n 0, 1) := by decide +kernel
theorem dX8_figureOf_60 : decode cX8_figureOf 60 = .ok (.getfield 66, 3) := by decide +kernel
theorem dX8_figureOf_63 : decode cX8_figureOf 63 = .ok (.bipush (-9), 2) := by decide +kernel
theorem dX8_figureOf_65 : decode cX8_figureOf 65 = .ok (.if_icmp .ne 10, 3) := by decide +kernel
theorem dX8_figureOf_68 : decode cX8_figureOf 68 = .ok (.aload_n 0, 1) := by decide +kernel
theorem dX8_figureOf_69 : decode cX8_figureOf 69 = .ok (.getfield 69, 3) := by decide +kernel
theorem dX8_figureOf_72 : decode cX8_figureOf 72 = .ok (.goto 7, 3) := by decide +kernel
theorem dX8_figureOf_75 : decode cX8_figureOf 75 = .ok (.aload_n 0, 1) := by decide +kernel
theorem dX8_figureOf_76 : decode cX8_figureOf 76 = .ok (.getfield 66, 3) := by decide +kernel
theorem dX8_figureOf_79 : decode cX8_figureOf 79 = .ok (.putfield 66, 3) := by decide +kernel
theorem dX8_figureOf_82 : decode cX8_figureOf 82 = .ok (.iconst 0, 1) := by decide +kernel
theorem dX8_figureOf_83 : decode cX8_figureOf 83 = .ok (.ireturn, 1) := by decide +kernel
theorem dX8_figureOf_84 : decode cX8_figureOf 84 = .ok (.aload_n 0, 1) := by decide +kernel
theorem dX8_figureOf_85 : decode cX8_figureOf 85 = .ok (.dup, 1) := by decide +kernel
theorem dX8_figureOf_86 : decode cX8_figureOf 86 = .ok (.getfield 69, 3) := by decide +kernel
theorem dX8_figureOf_89 : decode cX8_figureOf 89 = .ok (.iconst 1, 1) := by decide +kernel
theorem dX8_figureOf_90 : decode cX8_figureOf 90 = .ok (.iadd, 1) := by decide +kernel
theorem dX8_figureOf_91 : decode cX8_figureOf 91 = .ok (.putfield 69, 3) := by decide +kernel
theorem dX8_figureOf_94 : decode cX8_figureOf 94 = .ok (.iload_n 2, 1) := by decide +kernel
theorem dX8_figureOf_95 : decode cX8_figureOf 95 = .ok (.ireturn, 1) := by decide +kernel
set_option maxRecDepth 20000 in
theorem ggX8_readText_X8_readPart : GoodIn wsX8_readText wsX8_readPart := goodIn_r _ [14, 5, 1, 7, 2, 3, 4, 15, 16, 17, 18, 13, 19, 8, 9, 20, 21, 22, 23, 24, 25, 26, 27, 28, 29, 30, 31, 32, 33, 34, 6, 35, 36, 37, 38, 39, 40, 41, 42, 43, 44, 45, 46, 47, 48, 49, 50, 51, 52, 53, 54, 55, 56, 57, 58, 59, 60, 61, 62, 63, 64, 65, 66, 67] (by decide +kernel) (by decide +kernel)
set_option maxRecDepth 20000 in
theorem gX8_readText_X8_readPart : GoodIn wsX8_readText (wsV RX8 90 RX8 yX8_readPart wsX8_readPart) := goodIn_app (goodIn_of _ (by decide +kernel)) ggX8_readText_X8_readPart
theorem dX8_readText_0 : decode cX8_readText 0 = .ok (.aload_n 0, 1) := by decide +kernel
theorem dX8_readText_1 : decode cX8_readText 1 = .ok (.iconst 0, 1) := by decide +kernel
theorem dX8_readText_2 : decode cX8_readText 2 = .ok (.putfield 69, 3) := by decide +kernel
theorem dX8_readText_5 : decode cX8_readText 5 = .ok (.aload_n 0, 1) := by decide +kernel
theorem dX8_readText_6 : decode cX8_readText 6 = .ok (.bipush (-9), 2) := by decide +kernel
theorem dX8_readText_8 : decode cX8_readText 8 = .ok (.putfield 66, 3) := by decide +kernel
theorem dX8_readText_11 : decode cX8_readText 11 = .ok (.aload_n 0, 1) := by decide +kernel
theorem dX8_readText_12 : decode cX8_readText 12 = .ok (.iconst 0, 1) := by decide +kernel
theorem dX8_readText_13 : decode cX8_readText 13 = .ok (.putfield 78, 3) := by decide +kernel
theorem dX8_readText_16 : decode cX8_readText 16 = .ok (.aload_n 0, 1) := by decide +kernel
theorem dX8_readText_17 : decode cX8_readText 17 = .ok (.iconst 0, 1) := by decide +kernel
theorem dX8_readText_18 : decode cX8_readText 18 = .ok (.putfield 81, 3) := by decide +kernel
theorem dX8_readText_21 : decode cX8_readText 21 = .ok (.aload_n 0, 1) := by decide +kernel
theorem dX8_readText_22 : decode cX8_readText 22 = .ok (.iconst 0, 1) := by decide +kernel
theorem dX8_readText_23 : decode cX8_readText 23 = .ok (.putfield 84, 3) := by decide +kernel
theorem dX8_readText_26 : decode cX8_readText 26 = .ok (.aload_n 0, 1) := by decide +kernel
theorem dX8_readText_27 : decode cX8_readText 27 = .ok (.iconst 0, 1) := by decide +kernel
theorem dX8_readText_28 : decode cX8_readText 28 = .ok (.putfield 87, 3) := by decide +kernel
theorem dX8_readText_31 : decode cX8_readText 31 = .ok (.iconst 0, 1) := by decide +kernel
theorem dX8_readText_32 : decode cX8_readText 32 = .ok (.istore_n 1, 1) := by decide +kernel
theorem dX8_readText_33 : decode cX8_readText 33 = .ok (.iload_n 1, 1) := by decide +kernel
theorem dX8_readText_34 : decode cX8_readText 34 = .ok (.bipush 27, 2) := by decide +kernel
theorem dX8_readText_36 : decode cX8_readText 36 = .ok (.if_icmp .ge 16, 3) := by decide +kernel
theorem dX8_readText_39 : decode cX8_readText 39 = .ok (.aload_n 0, 1) := by decide +kernel
theorem dX8_readText_40 : decode cX8_readText 40 = .ok (.getfield 22, 3) := by decide +kernel
theorem dX8_readText_43 : decode cX8_readText 43 = .ok (.iload_n 1, 1) := by decide +kernel
theorem dX8_readText_44 : decode cX8_readText 44 = .ok (.iconst 0, 1) := by decide +kernel
theorem dX8_readText_45 : decode cX8_readText 45 = .ok (.iastore, 1) := by decide +kernel
theorem dX8_readText_46 : decode cX8_readText 46 = .ok (.iinc 1 1, 3) := by decide +kernel
theorem dX8_readText_49 : decode cX8_readText 49 = .ok (.goto (-16), 3) := by decide +kernel
theorem dX8_readText_52 : decode cX8_readText 52 = .ok (.aload_n 0, 1) := by decide +kernel
theorem dX8_readText_53 : decode cX8_readText 53 = .ok (.getfield 63, 3) := by decide +kernel
theorem dX8_readText_56 : decode cX8_readText 56 = .ok (.ifCond .eq 14, 3) := by decide +kernel
theorem dX8_readText_59 : decode cX8_readText 59 = .ok (.aload_n 0, 1) := by decide +kernel
theorem dX8_readText_60 : decode cX8_readText 60 = .ok (.getfield 34, 3) := by decide +kernel
theorem dX8_readText_63 : decode cX8_readText 63 = .ok (.iconst 0, 1) := by decide +kernel
theorem dX8_readText_64 : decode cX8_readText 64 = .ok (.iaload, 1) := by decide +kernel
theorem dX8_readText_65 : decode cX8_readText 65 = .ok (.bipush 72, 2) := by decide +kernel
theorem dX8_readText_67 : decode cX8_readText 67 = .ok (.if_icmp .eq 5, 3) := by decide +kernel
theorem dX8_readText_70 : decode cX8_readText 70 = .ok (.iconst 0, 1) := by decide +kernel
theorem dX8_readText_71 : decode cX8_readText 71 = .ok (.ireturn, 1) := by decide +kernel
theorem dX8_readText_72 : decode cX8_readText 72 = .ok (.aload_n 0, 1) := by decide +kernel
theorem dX8_readText_73 : decode cX8_readText 73 = .ok (.iconst 1, 1) := by decide +kernel
theorem dX8_readText_74 : decode cX8_readText 74 = .ok (.putfield 69, 3) := by decide +kernel
theorem dX8_readText_77 : decode cX8_readText 77 = .ok (.aload_n 0, 1) := by decide +kernel
theorem dX8_readText_78 : decode cX8_readText 78 = .ok (.getfield 66, 3) := by decide +kernel
theorem dX8_readText_81 : decode cX8_readText 81 = .ok (.bipush (-9), 2) := by decide +kernel
theorem dX8_readText_83 : decode cX8_readText 83 = .ok (.if_icmp .ne 30, 3) := by decide +kernel
theorem dX8_readText_86 : decode cX8_readText 86 = .ok (.aload_n 0, 1) := by decide +kernel
theorem dX8_readText_87 : decode cX8_readText 87 = .ok (.getfield 69, 3) := by decide +kernel
theorem dX8_readText_90 : decode cX8_readText 90 = .ok (.aload_n 0, 1) := by decide +kernel
theorem dX8_readText_91 : decode cX8_readText 91 = .ok (.getfield 63, 3) := by decide +kernel
theorem dX8_readText_94 : decode cX8_readText 94 = .ok (.if_icmp .ge 19, 3) := by decide +kernel
theorem dX8_readText_97 : decode cX8_readText 97 = .ok (.aload_n 0, 1) := by decide +kernel
theorem dX8_readText_98 : decode cX8_readText 98 = .ok (.aload_n 0, 1) := by decide +kernel
theorem dX8_readText_99 : decode cX8_readText 99 = .ok (.getfield 34, 3) := by decide +kernel
theorem dX8_readText_102 : decode cX8_readText 102 = .ok (.aload_n 0, 1) := by decide +kernel
theorem dX8_readText_103 : decode cX8_readText 103 = .ok (.getfield 69, 3) := by decide +kernel
theorem dX8_readText_106 : decode cX8_readText 106 = .ok (.iaload, 1) := by decide +kernel
theorem dX8_readText_107 : decode cX8_readText 107 = .ok (.invokevirtual 90, 3) := by decide +kernel
theorem dX8_readText_110 : decode cX8_readText 110 = .ok (.goto (-33), 3) := by decide +kernel
theorem dX8_readText_113 : decode cX8_readText 113 = .ok (.aload_n 0, 1) := by decide +kernel
theorem dX8_readText_114 : decode cX8_readText 114 = .ok (.getfield 66, 3) := by decide +kernel
theorem dX8_readText_117 : decode cX8_readText 117 = .ok (.ireturn, 1) := by decide +kernel
set_option maxRecDepth 20000 in
theorem ggX8_readPart_X8_figureOf : GoodIn wsX8_readPart wsX8_figureOf := goodIn_r _ [12, 4, 2, 13, 14, 15, 16, 17, 11, 18, 19, 20, 21, 33, 34, 35, 36, 37, 38, 39, 40, 41, 42, 43, 44, 45, 46, 47, 48, 49, 50, 51, 52, 53, 54, 55, 56, 57, 58, 59, 60, 61, 62, 63] (by decide +kernel) (by decide +kernel)
set_option maxRecDepth 20000 in
theorem gX8_readPart_X8_figureOf : GoodIn wsX8_readPart (wsV RX8 94 RX8 yX8_figureOf wsX8_figureOf) := goodIn_app (goodIn_of _ (by decide +kernel)) ggX8_readPart_X8_figureOf
set_option maxRecDepth 20000 in
theorem ggX8_readPart_X8_figure : GoodIn wsX8_readPart wsX8_figure := goodIn_r _ [25, 4, 2, 13, 14, 16, 17, 11, 18, 33, 34, 35, 36, 37, 38, 39, 40, 41, 42, 43, 44, 45, 46, 47, 48, 49, 50, 51, 52, 53, 54, 55, 56, 57, 58, 59, 60, 61, 62, 63] (by decide +kernel) (by decide +kernel)
set_option maxRecDepth 20000 in
theorem gX8_readPart_X8_figure : GoodIn wsX8_readPart (wsV RX8 98 RX8 yX8_figure wsX8_figure) := goodIn_app (goodIn_of _ (by decide +kernel)) ggX8_readPart_X8_figure
set_option maxRecDepth 20000 in
theorem ggX8_readPart_X8_readCock : GoodIn wsX8_readPart wsX8_readCock := goodIn_r _ [29, 5, 3, 30, 31, 32, 8, 9, 10, 11, 12, 4, 2, 13, 14, 15, 16, 17, 18, 19, 20, 21, 22, 23, 24, 25, 33, 34, 35, 36, 37, 38, 39, 40, 41, 42, 43, 44, 45, 46, 47, 48, 49, 50, 51, 52, 53, 54, 55, 56, 57, 58, 59, 60, 61, 62, 63] (by decide +kernel) (by decide +kernel)
set_option maxRecDepth 20000 in
theorem gX8_readPart_X8_readCock : GoodIn wsX8_readPart (wsV RX8 102 RX8 yX8_readCock wsX8_readCock) := goodIn_app (goodIn_of _ (by decide +kernel)) ggX8_readPart_X8_readCock
theorem dX8_readPart_0 : decode cX8_readPart 0 = .ok (.iload_n 1, 1) := by decide +kernel
theorem dX8_readPart_1 : decode cX8_readPart 1 = .ok (.bipush 84, 2) := by decide +kernel
theorem dX8_readPart_3 : decode cX8_readPart 3 = .ok (.if_icmp .ne 104, 3) := by decide +kernel
theorem dX8_readPart_6 : decode cX8_readPart 6 = .ok (.aload_n 0, 1) := by decide +kernel
theorem dX8_readPart_7 : decode cX8_readPart 7 = .ok (.getfield 84, 3) := by decide +kernel
theorem dX8_readPart_10 : decode cX8_readPart 10 = .ok (.sipush 1023, 3) := by decide +kernel
theorem dX8_readPart_13 : decode cX8_readPart 13 = .ok (.if_icmp .eq 94, 3) := by decide +kernel
theorem dX8_readPart_16 : decode cX8_readPart 16 = .ok (.aload_n 0, 1) := by decide +kernel
theorem dX8_readPart_17 : decode cX8_readPart 17 = .ok (.dup, 1) := by decide +kernel
theorem dX8_readPart_18 : decode cX8_readPart 18 = .ok (.getfield 69, 3) := by decide +kernel
theorem dX8_readPart_21 : decode cX8_readPart 21 = .ok (.iconst 1, 1) := by decide +kernel
theorem dX8_readPart_22 : decode cX8_readPart 22 = .ok (.iadd, 1) := by decide +kernel
theorem dX8_readPart_23 : decode cX8_readPart 23 = .ok (.putfield 69, 3) := by decide +kernel
theorem dX8_readPart_26 : decode cX8_readPart 26 = .ok (.aload_n 0, 1) := by decide +kernel
theorem dX8_readPart_27 : decode cX8_readPart 27 = .ok (.sipush 1023, 3) := by decide +kernel
theorem dX8_readPart_30 : decode cX8_readPart 30 = .ok (.aload_n 0, 1) := by decide +kernel
theorem dX8_readPart_31 : decode cX8_readPart 31 = .ok (.getfield 84, 3) := by decide +kernel
theorem dX8_readPart_34 : decode cX8_readPart 34 = .ok (.iconst (-1), 1) := by decide +kernel
theorem dX8_readPart_35 : decode cX8_readPart 35 = .ok (.ixor, 1) := by decide +kernel
theorem dX8_readPart_36 : decode cX8_readPart 36 = .ok (.iand, 1) := by decide +kernel
theorem dX8_readPart_37 : decode cX8_readPart 37 = .ok (.invokevirtual 94, 3) := by decide +kernel
theorem dX8_readPart_40 : decode cX8_readPart 40 = .ok (.istore_n 2, 1) := by decide +kernel
theorem dX8_readPart_41 : decode cX8_readPart 41 = .ok (.aload_n 0, 1) := by decide +kernel
theorem dX8_readPart_42 : decode cX8_readPart 42 = .ok (.iconst 1, 1) := by decide +kernel
theorem dX8_readPart_43 : decode cX8_readPart 43 = .ok (.iconst 3, 1) := by decide +kernel
theorem dX8_readPart_44 : decode cX8_readPart 44 = .ok (.invokevirtual 98, 3) := by decide +kernel
theorem dX8_readPart_47 : decode cX8_readPart 47 = .ok (.istore_n 3, 1) := by decide +kernel
theorem dX8_readPart_48 : decode cX8_readPart 48 = .ok (.aload_n 0, 1) := by decide +kernel
theorem dX8_readPart_49 : decode cX8_readPart 49 = .ok (.getfield 22, 3) := by decide +kernel
theorem dX8_readPart_52 : decode cX8_readPart 52 = .ok (.bipush 12, 2) := by decide +kernel
theorem dX8_readPart_54 : decode cX8_readPart 54 = .ok (.iload_n 2, 1) := by decide +kernel
theorem dX8_readPart_55 : decode cX8_readPart 55 = .ok (.iadd, 1) := by decide +kernel
theorem dX8_readPart_56 : decode cX8_readPart 56 = .ok (.aload_n 0, 1) := by decide +kernel
theorem dX8_readPart_57 : decode cX8_readPart 57 = .ok (.getfield 66, 3) := by decide +kernel
theorem dX8_readPart_60 : decode cX8_readPart 60 = .ok (.bipush (-9), 2) := by decide +kernel
theorem dX8_readPart_62 : decode cX8_readPart 62 = .ok (.if_icmp .ne 7, 3) := by decide +kernel
theorem dX8_readPart_65 : decode cX8_readPart 65 = .ok (.iload_n 3, 1) := by decide +kernel
theorem dX8_readPart_66 : decode cX8_readPart 66 = .ok (.goto 12, 3) := by decide +kernel
theorem dX8_readPart_69 : decode cX8_readPart 69 = .ok (.aload_n 0, 1) := by decide +kernel
theorem dX8_readPart_70 : decode cX8_readPart 70 = .ok (.getfield 22, 3) := by decide +kernel
theorem dX8_readPart_73 : decode cX8_readPart 73 = .ok (.bipush 12, 2) := by decide +kernel
theorem dX8_readPart_75 : decode cX8_readPart 75 = .ok (.iload_n 2, 1) := by decide +kernel
theorem dX8_readPart_76 : decode cX8_readPart 76 = .ok (.iadd, 1) := by decide +kernel
theorem dX8_readPart_77 : decode cX8_readPart 77 = .ok (.iaload, 1) := by decide +kernel
theorem dX8_readPart_78 : decode cX8_readPart 78 = .ok (.iastore, 1) := by decide +kernel
theorem dX8_readPart_79 : decode cX8_readPart 79 = .ok (.aload_n 0, 1) := by decide +kernel
theorem dX8_readPart_80 : decode cX8_readPart 80 = .ok (.dup, 1) := by decide +kernel
theorem dX8_readPart_81 : decode cX8_readPart 81 = .ok (.getfield 84, 3) := by decide +kernel
theorem dX8_readPart_84 : decode cX8_readPart 84 = .ok (.aload_n 0, 1) := by decide +kernel
theorem dX8_readPart_85 : decode cX8_readPart 85 = .ok (.getfield 66, 3) := by decide +kernel
theorem dX8_readPart_88 : decode cX8_readPart 88 = .ok (.bipush (-9), 2) := by decide +kernel
theorem dX8_readPart_90 : decode cX8_readPart 90 = .ok (.if_icmp .ne 9, 3) := by decide +kernel
theorem dX8_readPart_93 : decode cX8_readPart 93 = .ok (.iconst 1, 1) := by decide +kernel
theorem dX8_readPart_94 : decode cX8_readPart 94 = .ok (.iload_n 2, 1) := by decide +kernel
theorem dX8_readPart_95 : decode cX8_readPart 95 = .ok (.ishl, 1) := by decide +kernel
theorem dX8_readPart_96 : decode cX8_readPart 96 = .ok (.goto 4, 3) := by decide +kernel
theorem dX8_readPart_99 : decode cX8_readPart 99 = .ok (.iconst 0, 1) := by decide +kernel
theorem dX8_readPart_100 : decode cX8_readPart 100 = .ok (.ior, 1) := by decide +kernel
theorem dX8_readPart_101 : decode cX8_readPart 101 = .ok (.putfield 84, 3) := by decide +kernel
theorem dX8_readPart_104 : decode cX8_readPart 104 = .ok (.goto 136, 3) := by decide +kernel
theorem dX8_readPart_107 : decode cX8_readPart 107 = .ok (.iload_n 1, 1) := by decide +kernel
theorem dX8_readPart_108 : decode cX8_readPart 108 = .ok (.bipush 67, 2) := by decide +kernel
theorem dX8_readPart_110 : decode cX8_readPart 110 = .ok (.if_icmp .ne 29, 3) := by decide +kernel
theorem dX8_readPart_113 : decode cX8_readPart 113 = .ok (.aload_n 0, 1) := by decide +kernel
theorem dX8_readPart_114 : decode cX8_readPart 114 = .ok (.getfield 78, 3) := by decide +kernel
theorem dX8_readPart_117 : decode cX8_readPart 117 = .ok (.bipush 6, 2) := by decide +kernel
theorem dX8_readPart_119 : decode cX8_readPart 119 = .ok (.if_icmp .ge 20, 3) := by decide +kernel
theorem dX8_readPart_122 : decode cX8_readPart 122 = .ok (.aload_n 0, 1) := by decide +kernel
theorem dX8_readPart_123 : decode cX8_readPart 123 = .ok (.dup, 1) := by decide +kernel
theorem dX8_readPart_124 : decode cX8_readPart 124 = .ok (.getfield 69, 3) := by decide +kernel
theorem dX8_readPart_127 : decode cX8_readPart 127 = .ok (.iconst 1, 1) := by decide +kernel
theorem dX8_readPart_128 : decode cX8_readPart 128 = .ok (.iadd, 1) := by decide +kernel
theorem dX8_readPart_129 : decode cX8_readPart 129 = .ok (.putfield 69, 3) := by decide +kernel
theorem dX8_readPart_132 : decode cX8_readPart 132 = .ok (.aload_n 0, 1) := by decide +kernel
theorem dX8_readPart_133 : decode cX8_readPart 133 = .ok (.invokevirtual 102, 3) := by decide +kernel
theorem dX8_readPart_136 : decode cX8_readPart 136 = .ok (.goto 104, 3) := by decide +kernel
theorem dX8_readPart_139 : decode cX8_readPart 139 = .ok (.iload_n 1, 1) := by decide +kernel
theorem dX8_readPart_140 : decode cX8_readPart 140 = .ok (.bipush 87, 2) := by decide +kernel
theorem dX8_readPart_142 : decode cX8_readPart 142 = .ok (.if_icmp .ne 90, 3) := by decide +kernel
theorem dX8_readPart_145 : decode cX8_readPart 145 = .ok (.aload_n 0, 1) := by decide +kernel
theorem dX8_readPart_146 : decode cX8_readPart 146 = .ok (.getfield 81, 3) := by decide +kernel
theorem dX8_readPart_149 : decode cX8_readPart 149 = .ok (.iconst 4, 1) := by decide +kernel
theorem dX8_readPart_150 : decode cX8_readPart 150 = .ok (.if_icmp .ge 82, 3) := by decide +kernel
theorem dX8_readPart_153 : decode cX8_readPart 153 = .ok (.aload_n 0, 1) := by decide +kernel
theorem dX8_readPart_154 : decode cX8_readPart 154 = .ok (.dup, 1) := by decide +kernel
theorem dX8_readPart_155 : decode cX8_readPart 155 = .ok (.getfield 69, 3) := by decide +kernel
theorem dX8_readPart_158 : decode cX8_readPart 158 = .ok (.iconst 1, 1) := by decide +kernel
theorem dX8_readPart_159 : decode cX8_readPart 159 = .ok (.iadd, 1) := by decide +kernel
theorem dX8_readPart_160 : decode cX8_readPart 160 = .ok (.putfield 69, 3) := by decide +kernel
theorem dX8_readPart_163 : decode cX8_readPart 163 = .ok (.aload_n 0, 1) := by decide +kernel
theorem dX8_readPart_164 : decode cX8_readPart 164 = .ok (.getfield 31, 3) := by decide +kernel
theorem dX8_readPart_167 : decode cX8_readPart 167 = .ok (.iconst 3, 1) := by decide +kernel
theorem dX8_readPart_168 : decode cX8_readPart 168 = .ok (.aload_n 0, 1) := by decide +kernel
theorem dX8_readPart_169 : decode cX8_readPart 169 = .ok (.getfield 81, 3) := by decide +kernel
theorem dX8_readPart_172 : decode cX8_readPart 172 = .ok (.imul, 1) := by decide +kernel
theorem dX8_readPart_173 : decode cX8_readPart 173 = .ok (.aload_n 0, 1) := by decide +kernel
theorem dX8_readPart_174 : decode cX8_readPart 174 = .ok (.iconst 0, 1) := by decide +kernel
theorem dX8_readPart_175 : decode cX8_readPart 175 = .ok (.iconst 1, 1) := by decide +kernel
theorem dX8_readPart_176 : decode cX8_readPart 176 = .ok (.invokevirtual 98, 3) := by decide +kernel
theorem dX8_readPart_179 : decode cX8_readPart 179 = .ok (.iastore, 1) := by decide +kernel
theorem dX8_readPart_180 : decode cX8_readPart 180 = .ok (.aload_n 0, 1) := by decide +kernel
theorem dX8_readPart_181 : decode cX8_readPart 181 = .ok (.getfield 31, 3) := by decide +kernel
theorem dX8_readPart_184 : decode cX8_readPart 184 = .ok (.iconst 3, 1) := by decide +kernel
theorem dX8_readPart_185 : decode cX8_readPart 185 = .ok (.aload_n 0, 1) := by decide +kernel
theorem dX8_readPart_186 : decode cX8_readPart 186 = .ok (.getfield 81, 3) := by decide +kernel
theorem dX8_readPart_189 : decode cX8_readPart 189 = .ok (.imul, 1) := by decide +kernel
theorem dX8_readPart_190 : decode cX8_readPart 190 = .ok (.iconst 1, 1) := by decide +kernel
theorem dX8_readPart_191 : decode cX8_readPart 191 = .ok (.iadd, 1) := by decide +kernel
theorem dX8_readPart_192 : decode cX8_readPart 192 = .ok (.aload_n 0, 1) := by decide +kernel
theorem dX8_readPart_193 : decode cX8_readPart 193 = .ok (.iconst 0, 1) := by decide +kernel
theorem dX8_readPart_194 : decode cX8_readPart 194 = .ok (.iconst 5, 1) := by decide +kernel
theorem dX8_readPart_195 : decode cX8_readPart 195 = .ok (.invokevirtual 98, 3) := by decide +kernel
theorem dX8_readPart_198 : decode cX8_readPart 198 = .ok (.iastore, 1) := by decide +kernel
theorem dX8_readPart_199 : decode cX8_readPart 199 = .ok (.aload_n 0, 1) := by decide +kernel
theorem dX8_readPart_200 : decode cX8_readPart 200 = .ok (.getfield 31, 3) := by decide +kernel
theorem dX8_readPart_203 : decode cX8_readPart 203 = .ok (.iconst 3, 1) := by decide +kernel
theorem dX8_readPart_204 : decode cX8_readPart 204 = .ok (.aload_n 0, 1) := by decide +kernel
theorem dX8_readPart_205 : decode cX8_readPart 205 = .ok (.getfield 81, 3) := by decide +kernel
theorem dX8_readPart_208 : decode cX8_readPart 208 = .ok (.imul, 1) := by decide +kernel
theorem dX8_readPart_209 : decode cX8_readPart 209 = .ok (.iconst 2, 1) := by decide +kernel
theorem dX8_readPart_210 : decode cX8_readPart 210 = .ok (.iadd, 1) := by decide +kernel
theorem dX8_readPart_211 : decode cX8_readPart 211 = .ok (.aload_n 0, 1) := by decide +kernel
theorem dX8_readPart_212 : decode cX8_readPart 212 = .ok (.iconst 1, 1) := by decide +kernel
theorem dX8_readPart_213 : decode cX8_readPart 213 = .ok (.bipush 9, 2) := by decide +kernel
theorem dX8_readPart_215 : decode cX8_readPart 215 = .ok (.invokevirtual 98, 3) := by decide +kernel
theorem dX8_readPart_218 : decode cX8_readPart 218 = .ok (.iastore, 1) := by decide +kernel
theorem dX8_readPart_219 : decode cX8_readPart 219 = .ok (.aload_n 0, 1) := by decide +kernel
theorem dX8_readPart_220 : decode cX8_readPart 220 = .ok (.dup, 1) := by decide +kernel
theorem dX8_readPart_221 : decode cX8_readPart 221 = .ok (.getfield 81, 3) := by decide +kernel
theorem dX8_readPart_224 : decode cX8_readPart 224 = .ok (.iconst 1, 1) := by decide +kernel
theorem dX8_readPart_225 : decode cX8_readPart 225 = .ok (.iadd, 1) := by decide +kernel
theorem dX8_readPart_226 : decode cX8_readPart 226 = .ok (.putfield 81, 3) := by decide +kernel
theorem dX8_readPart_229 : decode cX8_readPart 229 = .ok (.goto 11, 3) := by decide +kernel
theorem dX8_readPart_232 : decode cX8_readPart 232 = .ok (.aload_n 0, 1) := by decide +kernel
theorem dX8_readPart_233 : decode cX8_readPart 233 = .ok (.aload_n 0, 1) := by decide +kernel
theorem dX8_readPart_234 : decode cX8_readPart 234 = .ok (.getfield 69, 3) := by decide +kernel
theorem dX8_readPart_237 : decode cX8_readPart 237 = .ok (.putfield 66, 3) := by decide +kernel
theorem dX8_readPart_240 : decode cX8_readPart 240 = .ok (.return_, 1) := by decide +kernel
set_option maxRecDepth 20000 in
theorem ggX8_readCock_X8_figureOf : GoodIn wsX8_readCock wsX8_figureOf := goodIn_r _ [10, 11, 12, 13, 14, 15, 16, 17, 9, 18, 19, 20, 21, 26, 27, 28, 29, 30, 31, 32, 33, 34, 35, 36, 37, 38, 39, 40, 41, 42, 43, 44, 45, 46, 47, 48, 49, 50, 51, 52, 53, 54, 55, 56] (by decide +kernel) (by decide +kernel)
set_option maxRecDepth 20000 in
theorem gX8_readCock_X8_figureOf : GoodIn wsX8_readCock (wsV RX8 94 RX8 yX8_figureOf wsX8_figureOf) := goodIn_app (goodIn_of _ (by decide +kernel)) ggX8_readCock_X8_figureOf
set_option maxRecDepth 20000 in
theorem ggX8_readCock_X8_figure : GoodIn wsX8_readCock wsX8_figure := goodIn_r _ [25, 11, 12, 13, 14, 16, 17, 9, 18, 26, 27, 28, 29, 30, 31, 32, 33, 34, 35, 36, 37, 38, 39, 40, 41, 42, 43, 44, 45, 46, 47, 48, 49, 50, 51, 52, 53, 54, 55, 56] (by decide +kernel) (by decide +kernel)
set_option maxRecDepth 20000 in
theorem gX8_readCock_X8_figure : GoodIn wsX8_readCock (wsV RX8 98 RX8 yX8_figure wsX8_figure) := goodIn_app (goodIn_of _ (by decide +kernel)) ggX8_readCock_X8_figure
theorem dX8_readCock_0 : decode cX8_readCock 0 = .ok (.aload_n 0, 1) := by decide +kernel
theorem dX8_readCock_1 : decode cX8_readCock 1 = .ok (.getfield 78, 3) := by decide +kernel
theorem dX8_readCock_4 : decode cX8_readCock 4 = .ok (.istore_n 1, 1) := by decide +kernel
theorem dX8_readCock_5 : decode cX8_readCock 5 = .ok (.aload_n 0, 1) := by decide +kernel
theorem dX8_readCock_6 : decode cX8_readCock 6 = .ok (.getfield 22, 3) := by decide +kernel
theorem dX8_readCock_9 : decode cX8_readCock 9 = .ok (.iload_n 1, 1) := by decide +kernel
theorem dX8_readCock_10 : decode cX8_readCock 10 = .ok (.aload_n 0, 1) := by decide +kernel
theorem dX8_readCock_11 : decode cX8_readCock 11 = .ok (.sipush 1023, 3) := by decide +kernel
theorem dX8_readCock_14 : decode cX8_readCock 14 = .ok (.aload_n 0, 1) := by decide +kernel
theorem dX8_readCock_15 : decode cX8_readCock 15 = .ok (.getfield 87, 3) := by decide +kernel
theorem dX8_readCock_18 : decode cX8_readCock 18 = .ok (.iconst (-1), 1) := by decide +kernel
theorem dX8_readCock_19 : decode cX8_readCock 19 = .ok (.ixor, 1) := by decide +kernel
theorem dX8_readCock_20 : decode cX8_readCock 20 = .ok (.iand, 1) := by decide +kernel
theorem dX8_readCock_21 : decode cX8_readCock 21 = .ok (.invokevirtual 94, 3) := by decide +kernel
theorem dX8_readCock_24 : decode cX8_readCock 24 = .ok (.iastore, 1) := by decide +kernel
theorem dX8_readCock_25 : decode cX8_readCock 25 = .ok (.aload_n 0, 1) := by decide +kernel
theorem dX8_readCock_26 : decode cX8_readCock 26 = .ok (.iconst 0, 1) := by decide +kernel
theorem dX8_readCock_27 : decode cX8_readCock 27 = .ok (.iconst 1, 1) := by decide +kernel
theorem dX8_readCock_28 : decode cX8_readCock 28 = .ok (.invokevirtual 98, 3) := by decide +kernel
theorem dX8_readCock_31 : decode cX8_readCock 31 = .ok (.istore_n 2, 1) := by decide +kernel
theorem dX8_readCock_32 : decode cX8_readCock 32 = .ok (.aload_n 0, 1) := by decide +kernel
theorem dX8_readCock_33 : decode cX8_readCock 33 = .ok (.getfield 25, 3) := by decide +kernel
theorem dX8_readCock_36 : decode cX8_readCock 36 = .ok (.iload_n 1, 1) := by decide +kernel
theorem dX8_readCock_37 : decode cX8_readCock 37 = .ok (.aload_n 0, 1) := by decide +kernel
theorem dX8_readCock_38 : decode cX8_readCock 38 = .ok (.iconst 0, 1) := by decide +kernel
theorem dX8_readCock_39 : decode cX8_readCock 39 = .ok (.iconst 3, 1) := by decide +kernel
theorem dX8_readCock_40 : decode cX8_readCock 40 = .ok (.invokevirtual 98, 3) := by decide +kernel
theorem dX8_readCock_43 : decode cX8_readCock 43 = .ok (.iastore, 1) := by decide +kernel
theorem dX8_readCock_44 : decode cX8_readCock 44 = .ok (.aload_n 0, 1) := by decide +kernel
theorem dX8_readCock_45 : decode cX8_readCock 45 = .ok (.getfield 22, 3) := by decide +kernel
theorem dX8_readCock_48 : decode cX8_readCock 48 = .ok (.bipush 6, 2) := by decide +kernel
theorem dX8_readCock_50 : decode cX8_readCock 50 = .ok (.iload_n 1, 1) := by decide +kernel
theorem dX8_readCock_51 : decode cX8_readCock 51 = .ok (.iadd, 1) := by decide +kernel
theorem dX8_readCock_52 : decode cX8_readCock 52 = .ok (.aload_n 0, 1) := by decide +kernel
theorem dX8_readCock_53 : decode cX8_readCock 53 = .ok (.iconst 0, 1) := by decide +kernel
theorem dX8_readCock_54 : decode cX8_readCock 54 = .ok (.iconst 4, 1) := by decide +kernel
theorem dX8_readCock_55 : decode cX8_readCock 55 = .ok (.invokevirtual 98, 3) := by decide +kernel
theorem dX8_readCock_58 : decode cX8_readCock 58 = .ok (.iastore, 1) := by decide +kernel
theorem dX8_readCock_59 : decode cX8_readCock 59 = .ok (.aload_n 0, 1) := by decide +kernel
theorem dX8_readCock_60 : decode cX8_readCock 60 = .ok (.getfield 28, 3) := by decide +kernel
theorem dX8_readCock_63 : decode cX8_readCock 63 = .ok (.iload_n 1, 1) := by decide +kernel
theorem dX8_readCock_64 : decode cX8_readCock 64 = .ok (.aload_n 0, 1) := by decide +kernel
theorem dX8_readCock_65 : decode cX8_readCock 65 = .ok (.iconst 1, 1) := by decide +kernel
theorem dX8_readCock_66 : decode cX8_readCock 66 = .ok (.bipush 9, 2) := by decide +kernel
theorem dX8_readCock_68 : decode cX8_readCock 68 = .ok (.invokevirtual 98, 3) := by decide +kernel
theorem dX8_readCock_71 : decode cX8_readCock 71 = .ok (.iastore, 1) := by decide +kernel
theorem dX8_readCock_72 : decode cX8_readCock 72 = .ok (.aload_n 0, 1) := by decide +kernel
theorem dX8_readCock_73 : decode cX8_readCock 73 = .ok (.iconst 0, 1) := by decide +kernel
theorem dX8_readCock_74 : decode cX8_readCock 74 = .ok (.iconst 1, 1) := by decide +kernel
theorem dX8_readCock_75 : decode cX8_readCock 75 = .ok (.invokevirtual 98, 3) := by decide +kernel
theorem dX8_readCock_78 : decode cX8_readCock 78 = .ok (.istore_n 3, 1) := by decide +kernel
theorem dX8_readCock_79 : decode cX8_readCock 79 = .ok (.aload_n 0, 1) := by decide +kernel
theorem dX8_readCock_80 : decode cX8_readCock 80 = .ok (.getfield 22, 3) := by decide +kernel
theorem dX8_readCock_83 : decode cX8_readCock 83 = .ok (.bipush 22, 2) := by decide +kernel
theorem dX8_readCock_85 : decode cX8_readCock 85 = .ok (.dup2, 1) := by decide +kernel
theorem dX8_readCock_86 : decode cX8_readCock 86 = .ok (.iaload, 1) := by decide +kernel
theorem dX8_readCock_87 : decode cX8_readCock 87 = .ok (.iload_n 2, 1) := by decide +kernel
theorem dX8_readCock_88 : decode cX8_readCock 88 = .ok (.iload_n 1, 1) := by decide +kernel
theorem dX8_readCock_89 : decode cX8_readCock 89 = .ok (.ishl, 1) := by decide +kernel
theorem dX8_readCock_90 : decode cX8_readCock 90 = .ok (.ior, 1) := by decide +kernel
theorem dX8_readCock_91 : decode cX8_readCock 91 = .ok (.iastore, 1) := by decide +kernel
theorem dX8_readCock_92 : decode cX8_readCock 92 = .ok (.aload_n 0, 1) := by decide +kernel
theorem dX8_readCock_93 : decode cX8_readCock 93 = .ok (.getfield 22, 3) := by decide +kernel
theorem dX8_readCock_96 : decode cX8_readCock 96 = .ok (.bipush 23, 2) := by decide +kernel
theorem dX8_readCock_98 : decode cX8_readCock 98 = .ok (.dup2, 1) := by decide +kernel
theorem dX8_readCock_99 : decode cX8_readCock 99 = .ok (.iaload, 1) := by decide +kernel
theorem dX8_readCock_100 : decode cX8_readCock 100 = .ok (.iload_n 3, 1) := by decide +kernel
theorem dX8_readCock_101 : decode cX8_readCock 101 = .ok (.iload_n 1, 1) := by decide +kernel
theorem dX8_readCock_102 : decode cX8_readCock 102 = .ok (.ishl, 1) := by decide +kernel
theorem dX8_readCock_103 : decode cX8_readCock 103 = .ok (.ior, 1) := by decide +kernel
theorem dX8_readCock_104 : decode cX8_readCock 104 = .ok (.iastore, 1) := by decide +kernel
theorem dX8_readCock_105 : decode cX8_readCock 105 = .ok (.aload_n 0, 1) := by decide +kernel
theorem dX8_readCock_106 : decode cX8_readCock 106 = .ok (.dup, 1) := by decide +kernel
theorem dX8_readCock_107 : decode cX8_readCock 107 = .ok (.getfield 87, 3) := by decide +kernel
theorem dX8_readCock_110 : decode cX8_readCock 110 = .ok (.iconst 1, 1) := by decide +kernel
theorem dX8_readCock_111 : decode cX8_readCock 111 = .ok (.aload_n 0, 1) := by decide +kernel
theorem dX8_readCock_112 : decode cX8_readCock 112 = .ok (.getfield 22, 3) := by decide +kernel
theorem dX8_readCock_115 : decode cX8_readCock 115 = .ok (.iload_n 1, 1) := by decide +kernel
theorem dX8_readCock_116 : decode cX8_readCock 116 = .ok (.iaload, 1) := by decide +kernel
theorem dX8_readCock_117 : decode cX8_readCock 117 = .ok (.ishl, 1) := by decide +kernel
theorem dX8_readCock_118 : decode cX8_readCock 118 = .ok (.ior, 1) := by decide +kernel
theorem dX8_readCock_119 : decode cX8_readCock 119 = .ok (.putfield 87, 3) := by decide +kernel
theorem dX8_readCock_122 : decode cX8_readCock 122 = .ok (.aload_n 0, 1) := by decide +kernel
theorem dX8_readCock_123 : decode cX8_readCock 123 = .ok (.dup, 1) := by decide +kernel
theorem dX8_readCock_124 : decode cX8_readCock 124 = .ok (.getfield 78, 3) := by decide +kernel
theorem dX8_readCock_127 : decode cX8_readCock 127 = .ok (.iconst 1, 1) := by decide +kernel
theorem dX8_readCock_128 : decode cX8_readCock 128 = .ok (.iadd, 1) := by decide +kernel
theorem dX8_readCock_129 : decode cX8_readCock 129 = .ok (.putfield 78, 3) := by decide +kernel
theorem dX8_readCock_132 : decode cX8_readCock 132 = .ok (.return_, 1) := by decide +kernel
set_option maxRecDepth 20000 in
theorem ggX8_fault_X8_readText : GoodIn wsX8_fault wsX8_readText := goodIn_r _ [5, 6, 7, 8, 9, 10, 11, 12, 13, 14, 15, 16, 17, 4, 18, 19, 20, 21, 22, 23, 24, 25, 26, 27, 28, 29, 30, 31, 32, 33, 34, 35, 36, 37, 38, 39, 40, 41, 42, 43, 44, 45, 46, 47, 48, 49, 50, 51, 52, 53, 54, 55, 56, 57, 58, 59, 60, 61, 62, 63, 64, 65, 66, 67, 68, 69, 70, 71] (by decide +kernel) (by decide +kernel)
set_option maxRecDepth 20000 in
theorem gX8_fault_X8_readText : GoodIn wsX8_fault (wsV RX8 105 RX8 yX8_readText wsX8_readText) := goodIn_app (goodIn_of _ (by decide +kernel)) ggX8_fault_X8_readText
theorem dX8_fault_0 : decode cX8_fault 0 = .ok (.aload_n 0, 1) := by decide +kernel
theorem dX8_fault_1 : decode cX8_fault 1 = .ok (.invokevirtual 105, 3) := by decide +kernel
theorem dX8_fault_4 : decode cX8_fault 4 = .ok (.ireturn, 1) := by decide +kernel
set_option maxRecDepth 20000 in
theorem ggX8_hill_X8_readText : GoodIn wsX8_hill wsX8_readText := goodIn_r _ [19, 20, 21, 1, 3, 22, 23, 12, 24, 25, 26, 27, 28, 18, 29, 10, 30, 31, 32, 33, 34, 35, 36, 37, 38, 39, 40, 41, 42, 43, 44, 45, 46, 47, 48, 6, 8, 49, 50, 51, 52, 53, 54, 55, 56, 57, 58, 59, 60, 61, 62, 63, 64, 65, 66, 67, 68, 69, 70, 71, 72, 73, 74, 75, 76, 77, 78, 79] (by decide +kernel) (by decide +kernel)
set_option maxRecDepth 20000 in
theorem gX8_hill_X8_readText : GoodIn wsX8_hill (wsV RX8 105 RX8 yX8_readText wsX8_readText) := goodIn_app (goodIn_of _ (by decide +kernel)) ggX8_hill_X8_readText
theorem dX8_hill_0 : decode cX8_hill 0 = .ok (.aload_n 0, 1) := by decide +kernel
theorem dX8_hill_1 : decode cX8_hill 1 = .ok (.invokevirtual 105, 3) := by decide +kernel
theorem dX8_hill_4 : decode cX8_hill 4 = .ok (.bipush (-9), 2) := by decide +kernel
theorem dX8_hill_6 : decode cX8_hill 6 = .ok (.if_icmp .eq 6, 3) := by decide +kernel
theorem dX8_hill_9 : decode cX8_hill 9 = .ok (.bipush (-3), 2) := by decide +kernel
theorem dX8_hill_11 : decode cX8_hill 11 = .ok (.ireturn, 1) := by decide +kernel
theorem dX8_hill_12 : decode cX8_hill 12 = .ok (.aload_n 0, 1) := by decide +kernel
theorem dX8_hill_13 : decode cX8_hill 13 = .ok (.aload_n 0, 1) := by decide +kernel
theorem dX8_hill_14 : decode cX8_hill 14 = .ok (.getfield 78, 3) := by decide +kernel
theorem dX8_hill_17 : decode cX8_hill 17 = .ok (.putfield 53, 3) := by decide +kernel
theorem dX8_hill_20 : decode cX8_hill 20 = .ok (.aload_n 0, 1) := by decide +kernel
theorem dX8_hill_21 : decode cX8_hill 21 = .ok (.aload_n 0, 1) := by decide +kernel
theorem dX8_hill_22 : decode cX8_hill 22 = .ok (.getfield 81, 3) := by decide +kernel
theorem dX8_hill_25 : decode cX8_hill 25 = .ok (.putfield 109, 3) := by decide +kernel
theorem dX8_hill_28 : decode cX8_hill 28 = .ok (.iconst 0, 1) := by decide +kernel
theorem dX8_hill_29 : decode cX8_hill 29 = .ok (.istore_n 1, 1) := by decide +kernel
theorem dX8_hill_30 : decode cX8_hill 30 = .ok (.iload_n 1, 1) := by decide +kernel
theorem dX8_hill_31 : decode cX8_hill 31 = .ok (.bipush 6, 2) := by decide +kernel
theorem dX8_hill_33 : decode cX8_hill 33 = .ok (.if_icmp .ge 33, 3) := by decide +kernel
theorem dX8_hill_36 : decode cX8_hill 36 = .ok (.aload_n 0, 1) := by decide +kernel
theorem dX8_hill_37 : decode cX8_hill 37 = .ok (.getfield 7, 3) := by decide +kernel
theorem dX8_hill_40 : decode cX8_hill 40 = .ok (.iload_n 1, 1) := by decide +kernel
theorem dX8_hill_41 : decode cX8_hill 41 = .ok (.aload_n 0, 1) := by decide +kernel
theorem dX8_hill_42 : decode cX8_hill 42 = .ok (.getfield 25, 3) := by decide +kernel
theorem dX8_hill_45 : decode cX8_hill 45 = .ok (.iload_n 1, 1) := by decide +kernel
theorem dX8_hill_46 : decode cX8_hill 46 = .ok (.iaload, 1) := by decide +kernel
theorem dX8_hill_47 : decode cX8_hill 47 = .ok (.iastore, 1) := by decide +kernel
theorem dX8_hill_48 : decode cX8_hill 48 = .ok (.aload_n 0, 1) := by decide +kernel
theorem dX8_hill_49 : decode cX8_hill 49 = .ok (.getfield 13, 3) := by decide +kernel
theorem dX8_hill_52 : decode cX8_hill 52 = .ok (.iload_n 1, 1) := by decide +kernel
theorem dX8_hill_53 : decode cX8_hill 53 = .ok (.aload_n 0, 1) := by decide +kernel
theorem dX8_hill_54 : decode cX8_hill 54 = .ok (.getfield 28, 3) := by decide +kernel
theorem dX8_hill_57 : decode cX8_hill 57 = .ok (.iload_n 1, 1) := by decide +kernel
theorem dX8_hill_58 : decode cX8_hill 58 = .ok (.iaload, 1) := by decide +kernel
theorem dX8_hill_59 : decode cX8_hill 59 = .ok (.iastore, 1) := by decide +kernel
theorem dX8_hill_60 : decode cX8_hill 60 = .ok (.iinc 1 1, 3) := by decide +kernel
theorem dX8_hill_63 : decode cX8_hill 63 = .ok (.goto (-33), 3) := by decide +kernel
theorem dX8_hill_66 : decode cX8_hill 66 = .ok (.iconst 0, 1) := by decide +kernel
theorem dX8_hill_67 : decode cX8_hill 67 = .ok (.istore_n 1, 1) := by decide +kernel
theorem dX8_hill_68 : decode cX8_hill 68 = .ok (.iload_n 1, 1) := by decide +kernel
theorem dX8_hill_69 : decode cX8_hill 69 = .ok (.bipush 12, 2) := by decide +kernel
theorem dX8_hill_71 : decode cX8_hill 71 = .ok (.if_icmp .ge 21, 3) := by decide +kernel
theorem dX8_hill_74 : decode cX8_hill 74 = .ok (.aload_n 0, 1) := by decide +kernel
theorem dX8_hill_75 : decode cX8_hill 75 = .ok (.getfield 16, 3) := by decide +kernel
theorem dX8_hill_78 : decode cX8_hill 78 = .ok (.iload_n 1, 1) := by decide +kernel
theorem dX8_hill_79 : decode cX8_hill 79 = .ok (.aload_n 0, 1) := by decide +kernel
theorem dX8_hill_80 : decode cX8_hill 80 = .ok (.getfield 31, 3) := by decide +kernel
theorem dX8_hill_83 : decode cX8_hill 83 = .ok (.iload_n 1, 1) := by decide +kernel
theorem dX8_hill_84 : decode cX8_hill 84 = .ok (.iaload, 1) := by decide +kernel
theorem dX8_hill_85 : decode cX8_hill 85 = .ok (.iastore, 1) := by decide +kernel
theorem dX8_hill_86 : decode cX8_hill 86 = .ok (.iinc 1 1, 3) := by decide +kernel
theorem dX8_hill_89 : decode cX8_hill 89 = .ok (.goto (-21), 3) := by decide +kernel
theorem dX8_hill_92 : decode cX8_hill 92 = .ok (.iconst 0, 1) := by decide +kernel
theorem dX8_hill_93 : decode cX8_hill 93 = .ok (.istore_n 1, 1) := by decide +kernel
theorem dX8_hill_94 : decode cX8_hill 94 = .ok (.iload_n 1, 1) := by decide +kernel
theorem dX8_hill_95 : decode cX8_hill 95 = .ok (.bipush 27, 2) := by decide +kernel
theorem dX8_hill_97 : decode cX8_hill 97 = .ok (.if_icmp .ge 21, 3) := by decide +kernel
theorem dX8_hill_100 : decode cX8_hill 100 = .ok (.aload_n 0, 1) := by decide +kernel
theorem dX8_hill_101 : decode cX8_hill 101 = .ok (.getfield 19, 3) := by decide +kernel
theorem dX8_hill_104 : decode cX8_hill 104 = .ok (.iload_n 1, 1) := by decide +kernel
theorem dX8_hill_105 : decode cX8_hill 105 = .ok (.aload_n 0, 1) := by decide +kernel
theorem dX8_hill_106 : decode cX8_hill 106 = .ok (.getfield 22, 3) := by decide +kernel
theorem dX8_hill_109 : decode cX8_hill 109 = .ok (.iload_n 1, 1) := by decide +kernel
theorem dX8_hill_110 : decode cX8_hill 110 = .ok (.iaload, 1) := by decide +kernel
theorem dX8_hill_111 : decode cX8_hill 111 = .ok (.iastore, 1) := by decide +kernel
theorem dX8_hill_112 : decode cX8_hill 112 = .ok (.iinc 1 1, 3) := by decide +kernel
theorem dX8_hill_115 : decode cX8_hill 115 = .ok (.goto (-21), 3) := by decide +kernel
theorem dX8_hill_118 : decode cX8_hill 118 = .ok (.aload_n 0, 1) := by decide +kernel
theorem dX8_hill_119 : decode cX8_hill 119 = .ok (.iconst 0, 1) := by decide +kernel
theorem dX8_hill_120 : decode cX8_hill 120 = .ok (.putfield 112, 3) := by decide +kernel
theorem dX8_hill_123 : decode cX8_hill 123 = .ok (.aload_n 0, 1) := by decide +kernel
theorem dX8_hill_124 : decode cX8_hill 124 = .ok (.getfield 46, 3) := by decide +kernel
theorem dX8_hill_127 : decode cX8_hill 127 = .ok (.iconst 0, 1) := by decide +kernel
theorem dX8_hill_128 : decode cX8_hill 128 = .ok (.iconst 0, 1) := by decide +kernel
theorem dX8_hill_129 : decode cX8_hill 129 = .ok (.bastore, 1) := by decide +kernel
theorem dX8_hill_130 : decode cX8_hill 130 = .ok (.aload_n 0, 1) := by decide +kernel
theorem dX8_hill_131 : decode cX8_hill 131 = .ok (.getfield 46, 3) := by decide +kernel
theorem dX8_hill_134 : decode cX8_hill 134 = .ok (.iconst 1, 1) := by decide +kernel
theorem dX8_hill_135 : decode cX8_hill 135 = .ok (.iconst 0, 1) := by decide +kernel
theorem dX8_hill_136 : decode cX8_hill 136 = .ok (.bastore, 1) := by decide +kernel
theorem dX8_hill_137 : decode cX8_hill 137 = .ok (.bipush 10, 2) := by decide +kernel
theorem dX8_hill_139 : decode cX8_hill 139 = .ok (.aload_n 0, 1) := by decide +kernel
theorem dX8_hill_140 : decode cX8_hill 140 = .ok (.getfield 53, 3) := by decide +kernel
theorem dX8_hill_143 : decode cX8_hill 143 = .ok (.imul, 1) := by decide +kernel
theorem dX8_hill_144 : decode cX8_hill 144 = .ok (.aload_n 0, 1) := by decide +kernel
theorem dX8_hill_145 : decode cX8_hill 145 = .ok (.getfield 109, 3) := by decide +kernel
theorem dX8_hill_148 : decode cX8_hill 148 = .ok (.iadd, 1) := by decide +kernel
theorem dX8_hill_149 : decode cX8_hill 149 = .ok (.ireturn, 1) := by decide +kernel
set_option maxRecDepth 20000 in
theorem ggX8_isCock_X8_in : GoodIn wsX8_isCock wsX8_in := goodIn_r _ [5] (by decide +kernel) (by decide +kernel)
set_option maxRecDepth 20000 in
theorem gX8_isCock_X8_in : GoodIn wsX8_isCock (va_wsS RX8 59 yX8_in wsX8_in) := goodIn_app (goodIn_of _ (by decide +kernel)) ggX8_isCock_X8_in
theorem dX8_isCock_0 : decode cX8_isCock 0 = .ok (.iload_n 1, 1) := by decide +kernel
theorem dX8_isCock_1 : decode cX8_isCock 1 = .ok (.i2l, 1) := by decide +kernel
theorem dX8_isCock_2 : decode cX8_isCock 2 = .ok (.lconst 0, 1) := by decide +kernel
theorem dX8_isCock_3 : decode cX8_isCock 3 = .ok (.aload_n 0, 1) := by decide +kernel
theorem dX8_isCock_4 : decode cX8_isCock 4 = .ok (.getfield 53, 3) := by decide +kernel
theorem dX8_isCock_7 : decode cX8_isCock 7 = .ok (.iconst 1, 1) := by decide +kernel
theorem dX8_isCock_8 : decode cX8_isCock 8 = .ok (.isub, 1) := by decide +kernel
theorem dX8_isCock_9 : decode cX8_isCock 9 = .ok (.i2l, 1) := by decide +kernel
theorem dX8_isCock_10 : decode cX8_isCock 10 = .ok (.invokestatic 59, 3) := by decide +kernel
theorem dX8_isCock_13 : decode cX8_isCock 13 = .ok (.ireturn, 1) := by decide +kernel
set_option maxRecDepth 20000 in
theorem ggX8_isWind_X8_in : GoodIn wsX8_isWind wsX8_in := goodIn_r _ [5] (by decide +kernel) (by decide +kernel)
set_option maxRecDepth 20000 in
theorem gX8_isWind_X8_in : GoodIn wsX8_isWind (va_wsS RX8 59 yX8_in wsX8_in) := goodIn_app (goodIn_of _ (by decide +kernel)) ggX8_isWind_X8_in
theorem dX8_isWind_0 : decode cX8_isWind 0 = .ok (.iload_n 1, 1) := by decide +kernel
theorem dX8_isWind_1 : decode cX8_isWind 1 = .ok (.i2l, 1) := by decide +kernel
theorem dX8_isWind_2 : decode cX8_isWind 2 = .ok (.lconst 0, 1) := by decide +kernel
theorem dX8_isWind_3 : decode cX8_isWind 3 = .ok (.aload_n 0, 1) := by decide +kernel
theorem dX8_isWind_4 : decode cX8_isWind 4 = .ok (.getfield 109, 3) := by decide +kernel
theorem dX8_isWind_7 : decode cX8_isWind 7 = .ok (.iconst 1, 1) := by decide +kernel
theorem dX8_isWind_8 : decode cX8_isWind 8 = .ok (.isub, 1) := by decide +kernel
theorem dX8_isWind_9 : decode cX8_isWind 9 = .ok (.i2l, 1) := by decide +kernel
theorem dX8_isWind_10 : decode cX8_isWind 10 = .ok (.invokestatic 59, 3) := by decide +kernel
theorem dX8_isWind_13 : decode cX8_isWind 13 = .ok (.ireturn, 1) := by decide +kernel
set_option maxRecDepth 20000 in
theorem ggX8_tree_X8_in : GoodIn wsX8_tree wsX8_in := goodIn_r _ [6] (by decide +kernel) (by decide +kernel)
set_option maxRecDepth 20000 in
theorem gX8_tree_X8_in : GoodIn wsX8_tree (va_wsS RX8 59 yX8_in wsX8_in) := goodIn_app (goodIn_of _ (by decide +kernel)) ggX8_tree_X8_in
theorem dX8_tree_0 : decode cX8_tree 0 = .ok (.iload_n 1, 1) := by decide +kernel
theorem dX8_tree_1 : decode cX8_tree 1 = .ok (.i2l, 1) := by decide +kernel
theorem dX8_tree_2 : decode cX8_tree 2 = .ok (.lconst 0, 1) := by decide +kernel
theorem dX8_tree_3 : decode cX8_tree 3 = .ok (.ldc2_w 72, 3) := by decide +kernel
theorem dX8_tree_6 : decode cX8_tree 6 = .ok (.invokestatic 59, 3) := by decide +kernel
theorem dX8_tree_9 : decode cX8_tree 9 = .ok (.ifCond .eq 15, 3) := by decide +kernel
theorem dX8_tree_12 : decode cX8_tree 12 = .ok (.aload_n 0, 1) := by decide +kernel
theorem dX8_tree_13 : decode cX8_tree 13 = .ok (.getfield 19, 3) := by decide +kernel
theorem dX8_tree_16 : decode cX8_tree 16 = .ok (.bipush 12, 2) := by decide +kernel
theorem dX8_tree_18 : decode cX8_tree 18 = .ok (.iload_n 1, 1) := by decide +kernel
theorem dX8_tree_19 : decode cX8_tree 19 = .ok (.iadd, 1) := by decide +kernel
theorem dX8_tree_20 : decode cX8_tree 20 = .ok (.iaload, 1) := by decide +kernel
theorem dX8_tree_21 : decode cX8_tree 21 = .ok (.goto 5, 3) := by decide +kernel
theorem dX8_tree_24 : decode cX8_tree 24 = .ok (.bipush (-2), 2) := by decide +kernel
theorem dX8_tree_26 : decode cX8_tree 26 = .ok (.ireturn, 1) := by decide +kernel
set_option maxRecDepth 20000 in
theorem ggX8_cock_X8_isCock : GoodIn wsX8_cock wsX8_isCock := goodIn_r _ [8, 9, 10, 11, 7, 12, 13, 14, 15, 16, 17, 18, 19, 20, 21, 22, 23, 24, 25, 26, 27, 28, 29, 30, 31, 32, 33, 34, 35, 36, 37, 38, 39, 40, 41, 42, 43] (by decide +kernel) (by decide +kernel)
set_option maxRecDepth 20000 in
theorem gX8_cock_X8_isCock : GoodIn wsX8_cock (wsV RX8 115 RX8 yX8_isCock wsX8_isCock) := goodIn_app (goodIn_of _ (by decide +kernel)) ggX8_cock_X8_isCock
theorem dX8_cock_0 : decode cX8_cock 0 = .ok (.aload_n 0, 1) := by decide +kernel
theorem dX8_cock_1 : decode cX8_cock 1 = .ok (.iload_n 1, 1) := by decide +kernel
theorem dX8_cock_2 : decode cX8_cock 2 = .ok (.invokevirtual 115, 3) := by decide +kernel
theorem dX8_cock_5 : decode cX8_cock 5 = .ok (.ifCond .ne 5, 3) := by decide +kernel
theorem dX8_cock_8 : decode cX8_cock 8 = .ok (.iconst (-1), 1) := by decide +kernel
theorem dX8_cock_9 : decode cX8_cock 9 = .ok (.ireturn, 1) := by decide +kernel
theorem dX8_cock_10 : decode cX8_cock 10 = .ok (.iload_n 2, 1) := by decide +kernel
theorem dX8_cock_11 : decode cX8_cock 11 = .ok (.tableswitch 108 0 6 #[41, 48, 60, 67, 77, 84, 96], 41) := by decide +kernel
theorem dX8_cock_52 : decode cX8_cock 52 = .ok (.aload_n 0, 1) := by decide +kernel
theorem dX8_cock_53 : decode cX8_cock 53 = .ok (.getfield 19, 3) := by decide +kernel
theorem dX8_cock_56 : decode cX8_cock 56 = .ok (.iload_n 1, 1) := by decide +kernel
theorem dX8_cock_57 : decode cX8_cock 57 = .ok (.iaload, 1) := by decide +kernel
theorem dX8_cock_58 : decode cX8_cock 58 = .ok (.ireturn, 1) := by decide +kernel
theorem dX8_cock_59 : decode cX8_cock 59 = .ok (.aload_n 0, 1) := by decide +kernel
theorem dX8_cock_60 : decode cX8_cock 60 = .ok (.getfield 19, 3) := by decide +kernel
theorem dX8_cock_63 : decode cX8_cock 63 = .ok (.bipush 22, 2) := by decide +kernel
theorem dX8_cock_65 : decode cX8_cock 65 = .ok (.iaload, 1) := by decide +kernel
theorem dX8_cock_66 : decode cX8_cock 66 = .ok (.iload_n 1, 1) := by decide +kernel
theorem dX8_cock_67 : decode cX8_cock 67 = .ok (.ishr, 1) := by decide +kernel
theorem dX8_cock_68 : decode cX8_cock 68 = .ok (.iconst 1, 1) := by decide +kernel
theorem dX8_cock_69 : decode cX8_cock 69 = .ok (.iand, 1) := by decide +kernel
theorem dX8_cock_70 : decode cX8_cock 70 = .ok (.ireturn, 1) := by decide +kernel
theorem dX8_cock_71 : decode cX8_cock 71 = .ok (.aload_n 0, 1) := by decide +kernel
theorem dX8_cock_72 : decode cX8_cock 72 = .ok (.getfield 7, 3) := by decide +kernel
theorem dX8_cock_75 : decode cX8_cock 75 = .ok (.iload_n 1, 1) := by decide +kernel
theorem dX8_cock_76 : decode cX8_cock 76 = .ok (.iaload, 1) := by decide +kernel
theorem dX8_cock_77 : decode cX8_cock 77 = .ok (.ireturn, 1) := by decide +kernel
theorem dX8_cock_78 : decode cX8_cock 78 = .ok (.aload_n 0, 1) := by decide +kernel
theorem dX8_cock_79 : decode cX8_cock 79 = .ok (.getfield 19, 3) := by decide +kernel
theorem dX8_cock_82 : decode cX8_cock 82 = .ok (.bipush 6, 2) := by decide +kernel
theorem dX8_cock_84 : decode cX8_cock 84 = .ok (.iload_n 1, 1) := by decide +kernel
theorem dX8_cock_85 : decode cX8_cock 85 = .ok (.iadd, 1) := by decide +kernel
theorem dX8_cock_86 : decode cX8_cock 86 = .ok (.iaload, 1) := by decide +kernel
theorem dX8_cock_87 : decode cX8_cock 87 = .ok (.ireturn, 1) := by decide +kernel
theorem dX8_cock_88 : decode cX8_cock 88 = .ok (.aload_n 0, 1) := by decide +kernel
theorem dX8_cock_89 : decode cX8_cock 89 = .ok (.getfield 13, 3) := by decide +kernel
theorem dX8_cock_92 : decode cX8_cock 92 = .ok (.iload_n 1, 1) := by decide +kernel
theorem dX8_cock_93 : decode cX8_cock 93 = .ok (.iaload, 1) := by decide +kernel
theorem dX8_cock_94 : decode cX8_cock 94 = .ok (.ireturn, 1) := by decide +kernel
theorem dX8_cock_95 : decode cX8_cock 95 = .ok (.aload_n 0, 1) := by decide +kernel
theorem dX8_cock_96 : decode cX8_cock 96 = .ok (.getfield 19, 3) := by decide +kernel
theorem dX8_cock_99 : decode cX8_cock 99 = .ok (.bipush 23, 2) := by decide +kernel
theorem dX8_cock_101 : decode cX8_cock 101 = .ok (.iaload, 1) := by decide +kernel
theorem dX8_cock_102 : decode cX8_cock 102 = .ok (.iload_n 1, 1) := by decide +kernel
theorem dX8_cock_103 : decode cX8_cock 103 = .ok (.ishr, 1) := by decide +kernel
theorem dX8_cock_104 : decode cX8_cock 104 = .ok (.iconst 1, 1) := by decide +kernel
theorem dX8_cock_105 : decode cX8_cock 105 = .ok (.iand, 1) := by decide +kernel
theorem dX8_cock_106 : decode cX8_cock 106 = .ok (.ireturn, 1) := by decide +kernel
theorem dX8_cock_107 : decode cX8_cock 107 = .ok (.aload_n 0, 1) := by decide +kernel
theorem dX8_cock_108 : decode cX8_cock 108 = .ok (.getfield 19, 3) := by decide +kernel
theorem dX8_cock_111 : decode cX8_cock 111 = .ok (.bipush 24, 2) := by decide +kernel
theorem dX8_cock_113 : decode cX8_cock 113 = .ok (.iaload, 1) := by decide +kernel
theorem dX8_cock_114 : decode cX8_cock 114 = .ok (.iload_n 1, 1) := by decide +kernel
theorem dX8_cock_115 : decode cX8_cock 115 = .ok (.ishr, 1) := by decide +kernel
theorem dX8_cock_116 : decode cX8_cock 116 = .ok (.iconst 1, 1) := by decide +kernel
theorem dX8_cock_117 : decode cX8_cock 117 = .ok (.iand, 1) := by decide +kernel
theorem dX8_cock_118 : decode cX8_cock 118 = .ok (.ireturn, 1) := by decide +kernel
theorem dX8_cock_119 : decode cX8_cock 119 = .ok (.bipush (-2), 2) := by decide +kernel
theorem dX8_cock_121 : decode cX8_cock 121 = .ok (.ireturn, 1) := by decide +kernel
set_option maxRecDepth 20000 in
theorem ggX8_isSheltered_X8_in : GoodIn wsX8_isSheltered wsX8_in := goodIn_r _ [7] (by decide +kernel) (by decide +kernel)
set_option maxRecDepth 20000 in
theorem gX8_isSheltered_X8_in : GoodIn wsX8_isSheltered (va_wsS RX8 59 yX8_in wsX8_in) := goodIn_app (goodIn_of _ (by decide +kernel)) ggX8_isSheltered_X8_in
theorem dX8_isSheltered_0 : decode cX8_isSheltered 0 = .ok (.aload_n 0, 1) := by decide +kernel
theorem dX8_isSheltered_1 : decode cX8_isSheltered 1 = .ok (.getfield 19, 3) := by decide +kernel
theorem dX8_isSheltered_4 : decode cX8_isSheltered 4 = .ok (.bipush 27, 2) := by decide +kernel
theorem dX8_isSheltered_6 : decode cX8_isSheltered 6 = .ok (.iload_n 1, 1) := by decide +kernel
theorem dX8_isSheltered_7 : decode cX8_isSheltered 7 = .ok (.imul, 1) := by decide +kernel
theorem dX8_isSheltered_8 : decode cX8_isSheltered 8 = .ok (.iload_n 2, 1) := by decide +kernel
theorem dX8_isSheltered_9 : decode cX8_isSheltered 9 = .ok (.iadd, 1) := by decide +kernel
theorem dX8_isSheltered_10 : decode cX8_isSheltered 10 = .ok (.iaload, 1) := by decide +kernel
theorem dX8_isSheltered_11 : decode cX8_isSheltered 11 = .ok (.iload_n 3, 1) := by decide +kernel
theorem dX8_isSheltered_12 : decode cX8_isSheltered 12 = .ok (.iconst 1, 1) := by decide +kernel
theorem dX8_isSheltered_13 : decode cX8_isSheltered 13 = .ok (.if_icmp .ne 7, 3) := by decide +kernel
theorem dX8_isSheltered_16 : decode cX8_isSheltered 16 = .ok (.iconst (-1), 1) := by decide +kernel
theorem dX8_isSheltered_17 : decode cX8_isSheltered 17 = .ok (.goto 4, 3) := by decide +kernel
theorem dX8_isSheltered_20 : decode cX8_isSheltered 20 = .ok (.iconst 1, 1) := by decide +kernel
theorem dX8_isSheltered_21 : decode cX8_isSheltered 21 = .ok (.iadd, 1) := by decide +kernel
theorem dX8_isSheltered_22 : decode cX8_isSheltered 22 = .ok (.istore 4, 2) := by decide +kernel
theorem dX8_isSheltered_24 : decode cX8_isSheltered 24 = .ok (.iload 4, 2) := by decide +kernel
theorem dX8_isSheltered_26 : decode cX8_isSheltered 26 = .ok (.i2l, 1) := by decide +kernel
theorem dX8_isSheltered_27 : decode cX8_isSheltered 27 = .ok (.lconst 0, 1) := by decide +kernel
theorem dX8_isSheltered_28 : decode cX8_isSheltered 28 = .ok (.ldc2_w 72, 3) := by decide +kernel
theorem dX8_isSheltered_31 : decode cX8_isSheltered 31 = .ok (.invokestatic 59, 3) := by decide +kernel
theorem dX8_isSheltered_34 : decode cX8_isSheltered 34 = .ok (.ifCond .eq 31, 3) := by decide +kernel
theorem dX8_isSheltered_37 : decode cX8_isSheltered 37 = .ok (.aload_n 0, 1) := by decide +kernel
theorem dX8_isSheltered_38 : decode cX8_isSheltered 38 = .ok (.getfield 19, 3) := by decide +kernel
theorem dX8_isSheltered_41 : decode cX8_isSheltered 41 = .ok (.bipush 27, 2) := by decide +kernel
theorem dX8_isSheltered_43 : decode cX8_isSheltered 43 = .ok (.iload_n 1, 1) := by decide +kernel
theorem dX8_isSheltered_44 : decode cX8_isSheltered 44 = .ok (.imul, 1) := by decide +kernel
theorem dX8_isSheltered_45 : decode cX8_isSheltered 45 = .ok (.bipush 12, 2) := by decide +kernel
theorem dX8_isSheltered_47 : decode cX8_isSheltered 47 = .ok (.iadd, 1) := by decide +kernel
theorem dX8_isSheltered_48 : decode cX8_isSheltered 48 = .ok (.iload 4, 2) := by decide +kernel
theorem dX8_isSheltered_50 : decode cX8_isSheltered 50 = .ok (.iadd, 1) := by decide +kernel
theorem dX8_isSheltered_51 : decode cX8_isSheltered 51 = .ok (.iaload, 1) := by decide +kernel
theorem dX8_isSheltered_52 : decode cX8_isSheltered 52 = .ok (.aload_n 0, 1) := by decide +kernel
theorem dX8_isSheltered_53 : decode cX8_isSheltered 53 = .ok (.getfield 7, 3) := by decide +kernel
theorem dX8_isSheltered_56 : decode cX8_isSheltered 56 = .ok (.iload_n 2, 1) := by decide +kernel
theorem dX8_isSheltered_57 : decode cX8_isSheltered 57 = .ok (.iaload, 1) := by decide +kernel
theorem dX8_isSheltered_58 : decode cX8_isSheltered 58 = .ok (.if_icmp .le 7, 3) := by decide +kernel
theorem dX8_isSheltered_61 : decode cX8_isSheltered 61 = .ok (.iconst 1, 1) := by decide +kernel
theorem dX8_isSheltered_62 : decode cX8_isSheltered 62 = .ok (.goto 4, 3) := by decide +kernel
theorem dX8_isSheltered_65 : decode cX8_isSheltered 65 = .ok (.iconst 0, 1) := by decide +kernel
theorem dX8_isSheltered_66 : decode cX8_isSheltered 66 = .ok (.ireturn, 1) := by decide +kernel
set_option maxRecDepth 20000 in
theorem ggX8_pointsBy_X8_has : GoodIn wsX8_pointsBy wsX8_has := goodIn_r _ [7] (by decide +kernel) (by decide +kernel)
set_option maxRecDepth 20000 in
theorem gX8_pointsBy_X8_has : GoodIn wsX8_pointsBy (va_wsS RX8 74 yX8_has wsX8_has) := goodIn_app (goodIn_of _ (by decide +kernel)) ggX8_pointsBy_X8_has
set_option maxRecDepth 20000 in
theorem ggX8_pointsBy_X8_isSheltered : GoodIn wsX8_pointsBy wsX8_isSheltered := goodIn_r _ [11, 1, 12, 13, 14, 15, 6, 16, 17, 18, 19, 20, 21, 22, 23, 24, 25, 26, 27, 28, 29, 30, 31, 32, 33, 34, 35, 36, 37, 38, 39, 40, 41, 42, 43, 44, 45, 46, 47] (by decide +kernel) (by decide +kernel)
set_option maxRecDepth 20000 in
theorem gX8_pointsBy_X8_isSheltered : GoodIn wsX8_pointsBy (wsV RX8 119 RX8 yX8_isSheltered wsX8_isSheltered) := goodIn_app (goodIn_of _ (by decide +kernel)) ggX8_pointsBy_X8_isSheltered
theorem dX8_pointsBy_0 : decode cX8_pointsBy 0 = .ok (.aload_n 0, 1) := by decide +kernel
theorem dX8_pointsBy_1 : decode cX8_pointsBy 1 = .ok (.getfield 19, 3) := by decide +kernel
theorem dX8_pointsBy_4 : decode cX8_pointsBy 4 = .ok (.bipush 27, 2) := by decide +kernel
theorem dX8_pointsBy_6 : decode cX8_pointsBy 6 = .ok (.iload_n 1, 1) := by decide +kernel
theorem dX8_pointsBy_7 : decode cX8_pointsBy 7 = .ok (.imul, 1) := by decide +kernel
theorem dX8_pointsBy_8 : decode cX8_pointsBy 8 = .ok (.bipush 23, 2) := by decide +kernel
theorem dX8_pointsBy_10 : decode cX8_pointsBy 10 = .ok (.iadd, 1) := by decide +kernel
theorem dX8_pointsBy_11 : decode cX8_pointsBy 11 = .ok (.iaload, 1) := by decide +kernel
theorem dX8_pointsBy_12 : decode cX8_pointsBy 12 = .ok (.istore 4, 2) := by decide +kernel
theorem dX8_pointsBy_14 : decode cX8_pointsBy 14 = .ok (.iconst 0, 1) := by decide +kernel
theorem dX8_pointsBy_15 : decode cX8_pointsBy 15 = .ok (.istore 5, 2) := by decide +kernel
theorem dX8_pointsBy_17 : decode cX8_pointsBy 17 = .ok (.iload 5, 2) := by decide +kernel
theorem dX8_pointsBy_19 : decode cX8_pointsBy 19 = .ok (.aload_n 0, 1) := by decide +kernel
theorem dX8_pointsBy_20 : decode cX8_pointsBy 20 = .ok (.getfield 53, 3) := by decide +kernel
theorem dX8_pointsBy_23 : decode cX8_pointsBy 23 = .ok (.if_icmp .ge 114, 3) := by decide +kernel
theorem dX8_pointsBy_26 : decode cX8_pointsBy 26 = .ok (.aload_n 0, 1) := by decide +kernel
theorem dX8_pointsBy_27 : decode cX8_pointsBy 27 = .ok (.getfield 16, 3) := by decide +kernel
theorem dX8_pointsBy_30 : decode cX8_pointsBy 30 = .ok (.iconst 3, 1) := by decide +kernel
theorem dX8_pointsBy_31 : decode cX8_pointsBy 31 = .ok (.iload_n 2, 1) := by decide +kernel
theorem dX8_pointsBy_32 : decode cX8_pointsBy 32 = .ok (.imul, 1) := by decide +kernel
theorem dX8_pointsBy_33 : decode cX8_pointsBy 33 = .ok (.iconst 1, 1) := by decide +kernel
theorem dX8_pointsBy_34 : decode cX8_pointsBy 34 = .ok (.iadd, 1) := by decide +kernel
theorem dX8_pointsBy_35 : decode cX8_pointsBy 35 = .ok (.iaload, 1) := by decide +kernel
theorem dX8_pointsBy_36 : decode cX8_pointsBy 36 = .ok (.aload_n 0, 1) := by decide +kernel
theorem dX8_pointsBy_37 : decode cX8_pointsBy 37 = .ok (.getfield 19, 3) := by decide +kernel
theorem dX8_pointsBy_40 : decode cX8_pointsBy 40 = .ok (.bipush 27, 2) := by decide +kernel
theorem dX8_pointsBy_42 : decode cX8_pointsBy 42 = .ok (.iload_n 1, 1) := by decide +kernel
theorem dX8_pointsBy_43 : decode cX8_pointsBy 43 = .ok (.imul, 1) := by decide +kernel
theorem dX8_pointsBy_44 : decode cX8_pointsBy 44 = .ok (.bipush 6, 2) := by decide +kernel
theorem dX8_pointsBy_46 : decode cX8_pointsBy 46 = .ok (.iadd, 1) := by decide +kernel
theorem dX8_pointsBy_47 : decode cX8_pointsBy 47 = .ok (.iload 5, 2) := by decide +kernel
theorem dX8_pointsBy_49 : decode cX8_pointsBy 49 = .ok (.iadd, 1) := by decide +kernel
theorem dX8_pointsBy_50 : decode cX8_pointsBy 50 = .ok (.iaload, 1) := by decide +kernel
theorem dX8_pointsBy_51 : decode cX8_pointsBy 51 = .ok (.if_icmp .le 34, 3) := by decide +kernel
theorem dX8_pointsBy_54 : decode cX8_pointsBy 54 = .ok (.iload_n 3, 1) := by decide +kernel
theorem dX8_pointsBy_55 : decode cX8_pointsBy 55 = .ok (.iload 5, 2) := by decide +kernel
theorem dX8_pointsBy_57 : decode cX8_pointsBy 57 = .ok (.invokestatic 74, 3) := by decide +kernel
theorem dX8_pointsBy_60 : decode cX8_pointsBy 60 = .ok (.ifCond .ne 25, 3) := by decide +kernel
theorem dX8_pointsBy_63 : decode cX8_pointsBy 63 = .ok (.aload_n 0, 1) := by decide +kernel
theorem dX8_pointsBy_64 : decode cX8_pointsBy 64 = .ok (.iload_n 1, 1) := by decide +kernel
theorem dX8_pointsBy_65 : decode cX8_pointsBy 65 = .ok (.iload 5, 2) := by decide +kernel
theorem dX8_pointsBy_67 : decode cX8_pointsBy 67 = .ok (.aload_n 0, 1) := by decide +kernel
theorem dX8_pointsBy_68 : decode cX8_pointsBy 68 = .ok (.getfield 16, 3) := by decide +kernel
theorem dX8_pointsBy_71 : decode cX8_pointsBy 71 = .ok (.iconst 3, 1) := by decide +kernel
theorem dX8_pointsBy_72 : decode cX8_pointsBy 72 = .ok (.iload_n 2, 1) := by decide +kernel
theorem dX8_pointsBy_73 : decode cX8_pointsBy 73 = .ok (.imul, 1) := by decide +kernel
theorem dX8_pointsBy_74 : decode cX8_pointsBy 74 = .ok (.iaload, 1) := by decide +kernel
theorem dX8_pointsBy_75 : decode cX8_pointsBy 75 = .ok (.invokevirtual 119, 3) := by decide +kernel
theorem dX8_pointsBy_78 : decode cX8_pointsBy 78 = .ok (.ifCond .ne 7, 3) := by decide +kernel
theorem dX8_pointsBy_81 : decode cX8_pointsBy 81 = .ok (.iconst 1, 1) := by decide +kernel
theorem dX8_pointsBy_82 : decode cX8_pointsBy 82 = .ok (.goto 4, 3) := by decide +kernel
theorem dX8_pointsBy_85 : decode cX8_pointsBy 85 = .ok (.iconst 0, 1) := by decide +kernel
theorem dX8_pointsBy_86 : decode cX8_pointsBy 86 = .ok (.istore 6, 2) := by decide +kernel
theorem dX8_pointsBy_88 : decode cX8_pointsBy 88 = .ok (.iload 6, 2) := by decide +kernel
theorem dX8_pointsBy_90 : decode cX8_pointsBy 90 = .ok (.ifCond .ne 8, 3) := by decide +kernel
theorem dX8_pointsBy_93 : decode cX8_pointsBy 93 = .ok (.iload 4, 2) := by decide +kernel
theorem dX8_pointsBy_95 : decode cX8_pointsBy 95 = .ok (.goto 34, 3) := by decide +kernel
theorem dX8_pointsBy_98 : decode cX8_pointsBy 98 = .ok (.aload_n 0, 1) := by decide +kernel
theorem dX8_pointsBy_99 : decode cX8_pointsBy 99 = .ok (.getfield 16, 3) := by decide +kernel
theorem dX8_pointsBy_102 : decode cX8_pointsBy 102 = .ok (.iconst 3, 1) := by decide +kernel
theorem dX8_pointsBy_103 : decode cX8_pointsBy 103 = .ok (.iload_n 2, 1) := by decide +kernel
theorem dX8_pointsBy_104 : decode cX8_pointsBy 104 = .ok (.imul, 1) := by decide +kernel
theorem dX8_pointsBy_105 : decode cX8_pointsBy 105 = .ok (.iaload, 1) := by decide +kernel
theorem dX8_pointsBy_106 : decode cX8_pointsBy 106 = .ok (.iconst 1, 1) := by decide +kernel
theorem dX8_pointsBy_107 : decode cX8_pointsBy 107 = .ok (.if_icmp .ne 13, 3) := by decide +kernel
theorem dX8_pointsBy_110 : decode cX8_pointsBy 110 = .ok (.iload 4, 2) := by decide +kernel
theorem dX8_pointsBy_112 : decode cX8_pointsBy 112 = .ok (.iconst 1, 1) := by decide +kernel
theorem dX8_pointsBy_113 : decode cX8_pointsBy 113 = .ok (.iload 5, 2) := by decide +kernel
theorem dX8_pointsBy_115 : decode cX8_pointsBy 115 = .ok (.ishl, 1) := by decide +kernel
theorem dX8_pointsBy_116 : decode cX8_pointsBy 116 = .ok (.ior, 1) := by decide +kernel
theorem dX8_pointsBy_117 : decode cX8_pointsBy 117 = .ok (.goto 12, 3) := by decide +kernel
theorem dX8_pointsBy_120 : decode cX8_pointsBy 120 = .ok (.iload 4, 2) := by decide +kernel
theorem dX8_pointsBy_122 : decode cX8_pointsBy 122 = .ok (.iconst 1, 1) := by decide +kernel
theorem dX8_pointsBy_123 : decode cX8_pointsBy 123 = .ok (.iload 5, 2) := by decide +kernel
theorem dX8_pointsBy_125 : decode cX8_pointsBy 125 = .ok (.ishl, 1) := by decide +kernel
theorem dX8_pointsBy_126 : decode cX8_pointsBy 126 = .ok (.iconst (-1), 1) := by decide +kernel
theorem dX8_pointsBy_127 : decode cX8_pointsBy 127 = .ok (.ixor, 1) := by decide +kernel
theorem dX8_pointsBy_128 : decode cX8_pointsBy 128 = .ok (.iand, 1) := by decide +kernel
theorem dX8_pointsBy_129 : decode cX8_pointsBy 129 = .ok (.istore 4, 2) := by decide +kernel
theorem dX8_pointsBy_131 : decode cX8_pointsBy 131 = .ok (.iinc 5 1, 3) := by decide +kernel
theorem dX8_pointsBy_134 : decode cX8_pointsBy 134 = .ok (.goto (-117), 3) := by decide +kernel
theorem dX8_pointsBy_137 : decode cX8_pointsBy 137 = .ok (.iload 4, 2) := by decide +kernel
theorem dX8_pointsBy_139 : decode cX8_pointsBy 139 = .ok (.ireturn, 1) := by decide +kernel
set_option maxRecDepth 20000 in
theorem ggX8_weightOf_X8_has : GoodIn wsX8_weightOf wsX8_has := goodIn_r _ [7] (by decide +kernel) (by decide +kernel)
set_option maxRecDepth 20000 in
theorem gX8_weightOf_X8_has : GoodIn wsX8_weightOf (va_wsS RX8 74 yX8_has wsX8_has) := goodIn_app (goodIn_of _ (by decide +kernel)) ggX8_weightOf_X8_has
theorem dX8_weightOf_0 : decode cX8_weightOf 0 = .ok (.iconst 0, 1) := by decide +kernel
theorem dX8_weightOf_1 : decode cX8_weightOf 1 = .ok (.istore 4, 2) := by decide +kernel
theorem dX8_weightOf_3 : decode cX8_weightOf 3 = .ok (.iconst 0, 1) := by decide +kernel
theorem dX8_weightOf_4 : decode cX8_weightOf 4 = .ok (.istore 5, 2) := by decide +kernel
theorem dX8_weightOf_6 : decode cX8_weightOf 6 = .ok (.iload 5, 2) := by decide +kernel
theorem dX8_weightOf_8 : decode cX8_weightOf 8 = .ok (.aload_n 0, 1) := by decide +kernel
theorem dX8_weightOf_9 : decode cX8_weightOf 9 = .ok (.getfield 53, 3) := by decide +kernel
theorem dX8_weightOf_12 : decode cX8_weightOf 12 = .ok (.if_icmp .ge 76, 3) := by decide +kernel
theorem dX8_weightOf_15 : decode cX8_weightOf 15 = .ok (.aload_n 0, 1) := by decide +kernel
theorem dX8_weightOf_16 : decode cX8_weightOf 16 = .ok (.getfield 19, 3) := by decide +kernel
theorem dX8_weightOf_19 : decode cX8_weightOf 19 = .ok (.bipush 27, 2) := by decide +kernel
theorem dX8_weightOf_21 : decode cX8_weightOf 21 = .ok (.iload_n 1, 1) := by decide +kernel
theorem dX8_weightOf_22 : decode cX8_weightOf 22 = .ok (.imul, 1) := by decide +kernel
theorem dX8_weightOf_23 : decode cX8_weightOf 23 = .ok (.bipush 22, 2) := by decide +kernel
theorem dX8_weightOf_25 : decode cX8_weightOf 25 = .ok (.iadd, 1) := by decide +kernel
theorem dX8_weightOf_26 : decode cX8_weightOf 26 = .ok (.iaload, 1) := by decide +kernel
theorem dX8_weightOf_27 : decode cX8_weightOf 27 = .ok (.iload 5, 2) := by decide +kernel
theorem dX8_weightOf_29 : decode cX8_weightOf 29 = .ok (.ishr, 1) := by decide +kernel
theorem dX8_weightOf_30 : decode cX8_weightOf 30 = .ok (.iconst 1, 1) := by decide +kernel
theorem dX8_weightOf_31 : decode cX8_weightOf 31 = .ok (.iand, 1) := by decide +kernel
theorem dX8_weightOf_32 : decode cX8_weightOf 32 = .ok (.iload_n 2, 1) := by decide +kernel
theorem dX8_weightOf_33 : decode cX8_weightOf 33 = .ok (.if_icmp .ne 7, 3) := by decide +kernel
theorem dX8_weightOf_36 : decode cX8_weightOf 36 = .ok (.iconst 1, 1) := by decide +kernel
theorem dX8_weightOf_37 : decode cX8_weightOf 37 = .ok (.goto 4, 3) := by decide +kernel
theorem dX8_weightOf_40 : decode cX8_weightOf 40 = .ok (.iconst 0, 1) := by decide +kernel
theorem dX8_weightOf_41 : decode cX8_weightOf 41 = .ok (.istore 6, 2) := by decide +kernel
theorem dX8_weightOf_43 : decode cX8_weightOf 43 = .ok (.iload 4, 2) := by decide +kernel
theorem dX8_weightOf_45 : decode cX8_weightOf 45 = .ok (.iload 6, 2) := by decide +kernel
theorem dX8_weightOf_47 : decode cX8_weightOf 47 = .ok (.ifCond .eq 31, 3) := by decide +kernel
theorem dX8_weightOf_50 : decode cX8_weightOf 50 = .ok (.iload_n 3, 1) := by decide +kernel
theorem dX8_weightOf_51 : decode cX8_weightOf 51 = .ok (.iload 5, 2) := by decide +kernel
theorem dX8_weightOf_53 : decode cX8_weightOf 53 = .ok (.invokestatic 74, 3) := by decide +kernel
theorem dX8_weightOf_56 : decode cX8_weightOf 56 = .ok (.iload_n 2, 1) := by decide +kernel
theorem dX8_weightOf_57 : decode cX8_weightOf 57 = .ok (.ifCond .ne 7, 3) := by decide +kernel
theorem dX8_weightOf_60 : decode cX8_weightOf 60 = .ok (.iconst 1, 1) := by decide +kernel
theorem dX8_weightOf_61 : decode cX8_weightOf 61 = .ok (.goto 4, 3) := by decide +kernel
theorem dX8_weightOf_64 : decode cX8_weightOf 64 = .ok (.iconst 0, 1) := by decide +kernel
theorem dX8_weightOf_65 : decode cX8_weightOf 65 = .ok (.if_icmp .ne 13, 3) := by decide +kernel
theorem dX8_weightOf_68 : decode cX8_weightOf 68 = .ok (.aload_n 0, 1) := by decide +kernel
theorem dX8_weightOf_69 : decode cX8_weightOf 69 = .ok (.getfield 13, 3) := by decide +kernel
theorem dX8_weightOf_72 : decode cX8_weightOf 72 = .ok (.iload 5, 2) := by decide +kernel
theorem dX8_weightOf_74 : decode cX8_weightOf 74 = .ok (.iaload, 1) := by decide +kernel
theorem dX8_weightOf_75 : decode cX8_weightOf 75 = .ok (.goto 4, 3) := by decide +kernel
theorem dX8_weightOf_78 : decode cX8_weightOf 78 = .ok (.iconst 0, 1) := by decide +kernel
theorem dX8_weightOf_79 : decode cX8_weightOf 79 = .ok (.iadd, 1) := by decide +kernel
theorem dX8_weightOf_80 : decode cX8_weightOf 80 = .ok (.istore 4, 2) := by decide +kernel
theorem dX8_weightOf_82 : decode cX8_weightOf 82 = .ok (.iinc 5 1, 3) := by decide +kernel
theorem dX8_weightOf_85 : decode cX8_weightOf 85 = .ok (.goto (-79), 3) := by decide +kernel
theorem dX8_weightOf_88 : decode cX8_weightOf 88 = .ok (.iload 4, 2) := by decide +kernel
theorem dX8_weightOf_90 : decode cX8_weightOf 90 = .ok (.ireturn, 1) := by decide +kernel
set_option maxRecDepth 20000 in
theorem ggX8_brookBy_X8_weightOf : GoodIn wsX8_brookBy wsX8_weightOf := goodIn_r _ [6, 7, 1, 8, 9, 10, 5, 11, 12, 13, 14, 15, 16, 17, 18, 19, 20, 21, 22, 23, 24, 25, 26, 27, 28, 29, 30, 31, 32, 33, 34, 35, 36, 37, 38, 39, 40, 41, 42] (by decide +kernel) (by decide +kernel)
set_option maxRecDepth 20000 in
theorem gX8_brookBy_X8_weightOf : GoodIn wsX8_brookBy (wsV RX8 123 RX8 yX8_weightOf wsX8_weightOf) := goodIn_app (goodIn_of _ (by decide +kernel)) ggX8_brookBy_X8_weightOf
theorem dX8_brookBy_0 : decode cX8_brookBy 0 = .ok (.aload_n 0, 1) := by decide +kernel
theorem dX8_brookBy_1 : decode cX8_brookBy 1 = .ok (.iload_n 1, 1) := by decide +kernel
theorem dX8_brookBy_2 : decode cX8_brookBy 2 = .ok (.iconst 0, 1) := by decide +kernel
theorem dX8_brookBy_3 : decode cX8_brookBy 3 = .ok (.iload_n 2, 1) := by decide +kernel
theorem dX8_brookBy_4 : decode cX8_brookBy 4 = .ok (.invokevirtual 123, 3) := by decide +kernel
theorem dX8_brookBy_7 : decode cX8_brookBy 7 = .ok (.aload_n 0, 1) := by decide +kernel
theorem dX8_brookBy_8 : decode cX8_brookBy 8 = .ok (.iload_n 1, 1) := by decide +kernel
theorem dX8_brookBy_9 : decode cX8_brookBy 9 = .ok (.iconst 1, 1) := by decide +kernel
theorem dX8_brookBy_10 : decode cX8_brookBy 10 = .ok (.iload_n 2, 1) := by decide +kernel
theorem dX8_brookBy_11 : decode cX8_brookBy 11 = .ok (.invokevirtual 123, 3) := by decide +kernel
theorem dX8_brookBy_14 : decode cX8_brookBy 14 = .ok (.isub, 1) := by decide +kernel
theorem dX8_brookBy_15 : decode cX8_brookBy 15 = .ok (.istore_n 3, 1) := by decide +kernel
theorem dX8_brookBy_16 : decode cX8_brookBy 16 = .ok (.iload_n 3, 1) := by decide +kernel
theorem dX8_brookBy_17 : decode cX8_brookBy 17 = .ok (.ifCond .le 7, 3) := by decide +kernel
theorem dX8_brookBy_20 : decode cX8_brookBy 20 = .ok (.iconst 0, 1) := by decide +kernel
theorem dX8_brookBy_21 : decode cX8_brookBy 21 = .ok (.goto 23, 3) := by decide +kernel
theorem dX8_brookBy_24 : decode cX8_brookBy 24 = .ok (.iload_n 3, 1) := by decide +kernel
theorem dX8_brookBy_25 : decode cX8_brookBy 25 = .ok (.ifCond .ge 7, 3) := by decide +kernel
theorem dX8_brookBy_28 : decode cX8_brookBy 28 = .ok (.iconst 1, 1) := by decide +kernel
theorem dX8_brookBy_29 : decode cX8_brookBy 29 = .ok (.goto 15, 3) := by decide +kernel
theorem dX8_brookBy_32 : decode cX8_brookBy 32 = .ok (.aload_n 0, 1) := by decide +kernel
theorem dX8_brookBy_33 : decode cX8_brookBy 33 = .ok (.getfield 19, 3) := by decide +kernel
theorem dX8_brookBy_36 : decode cX8_brookBy 36 = .ok (.bipush 27, 2) := by decide +kernel
theorem dX8_brookBy_38 : decode cX8_brookBy 38 = .ok (.iload_n 1, 1) := by decide +kernel
theorem dX8_brookBy_39 : decode cX8_brookBy 39 = .ok (.imul, 1) := by decide +kernel
theorem dX8_brookBy_40 : decode cX8_brookBy 40 = .ok (.bipush 25, 2) := by decide +kernel
theorem dX8_brookBy_42 : decode cX8_brookBy 42 = .ok (.iadd, 1) := by decide +kernel
theorem dX8_brookBy_43 : decode cX8_brookBy 43 = .ok (.iaload, 1) := by decide +kernel
theorem dX8_brookBy_44 : decode cX8_brookBy 44 = .ok (.ireturn, 1) := by decide +kernel
set_option maxRecDepth 20000 in
theorem ggX8_blowOn_X8_pointsBy : GoodIn wsX8_blowOn wsX8_pointsBy := goodIn_r _ [6, 1, 7, 8, 9, 10, 5, 11, 12, 13, 14, 15, 16, 17, 18, 19, 20, 30, 31, 32, 33, 34, 35, 36, 37, 38, 39, 40, 41, 42, 43, 44, 45, 46, 47, 48, 49, 50, 51, 52, 53, 54, 55, 56, 57, 58, 59, 60] (by decide +kernel) (by decide +kernel)
set_option maxRecDepth 20000 in
theorem gX8_blowOn_X8_pointsBy : GoodIn wsX8_blowOn (wsV RX8 127 RX8 yX8_pointsBy wsX8_pointsBy) := goodIn_app (goodIn_of _ (by decide +kernel)) ggX8_blowOn_X8_pointsBy
set_option maxRecDepth 20000 in
theorem ggX8_blowOn_X8_brookBy : GoodIn wsX8_blowOn wsX8_brookBy := goodIn_r _ [24, 1, 25, 26, 27, 5, 28, 7, 29, 9, 10, 11, 30, 31, 32, 33, 34, 35, 36, 37, 38, 39, 40, 41, 42, 43, 44, 45, 46, 47, 48, 49, 50, 51, 52, 53, 54, 55, 56, 57, 58, 59, 60] (by decide +kernel) (by decide +kernel)
set_option maxRecDepth 20000 in
theorem gX8_blowOn_X8_brookBy : GoodIn wsX8_blowOn (wsV RX8 130 RX8 yX8_brookBy wsX8_brookBy) := goodIn_app (goodIn_of _ (by decide +kernel)) ggX8_blowOn_X8_brookBy
theorem dX8_blowOn_0 : decode cX8_blowOn 0 = .ok (.bipush 27, 2) := by decide +kernel
theorem dX8_blowOn_2 : decode cX8_blowOn 2 = .ok (.iload_n 1, 1) := by decide +kernel
theorem dX8_blowOn_3 : decode cX8_blowOn 3 = .ok (.imul, 1) := by decide +kernel
theorem dX8_blowOn_4 : decode cX8_blowOn 4 = .ok (.istore_n 3, 1) := by decide +kernel
theorem dX8_blowOn_5 : decode cX8_blowOn 5 = .ok (.aload_n 0, 1) := by decide +kernel
theorem dX8_blowOn_6 : decode cX8_blowOn 6 = .ok (.iload_n 1, 1) := by decide +kernel
theorem dX8_blowOn_7 : decode cX8_blowOn 7 = .ok (.iload_n 2, 1) := by decide +kernel
theorem dX8_blowOn_8 : decode cX8_blowOn 8 = .ok (.aload_n 0, 1) := by decide +kernel
