set_option maxRecDepth 20000 in
theorem ggX0_init_X2_init : GoodIn wsX0_init wsX2_init := goodIn_r _ [9, 10, 2, 3, 11, 12, 13, 14, 15, 16, 20, 21, 22, 23, 24, 25, 26, 27, 28, 29, 30] (by decide +kernel) (by decide +kernel)
set_option maxRecDepth 20000 in
theorem gX0_init_X2_init_n17 : GoodIn wsX0_init (wsX2_init) := ggX0_init_X2_init
theorem dX0_init_0 : decode cX0_init 0 = .ok (.aload_n 0, 1) := by decide +kernel
theorem dX0_init_1 : decode cX0_init 1 = .ok (.invokespecial 3, 3) := by decide +kernel
theorem dX0_init_4 : decode cX0_init 4 = .ok (.aload_n 0, 1) := by decide +kernel
theorem dX0_init_5 : decode cX0_init 5 = .ok (.bipush 14, 2) := by decide +kernel
theorem dX0_init_7 : decode cX0_init 7 = .ok (.anewarray 9, 3) := by decide +kernel
theorem dX0_init_10 : decode cX0_init 10 = .ok (.putfield 11, 3) := by decide +kernel
theorem dX0_init_13 : decode cX0_init 13 = .ok (.iconst 0, 1) := by decide +kernel
theorem dX0_init_14 : decode cX0_init 14 = .ok (.istore_n 1, 1) := by decide +kernel
theorem dX0_init_15 : decode cX0_init 15 = .ok (.iload_n 1, 1) := by decide +kernel
theorem dX0_init_16 : decode cX0_init 16 = .ok (.aload_n 0, 1) := by decide +kernel
theorem dX0_init_17 : decode cX0_init 17 = .ok (.getfield 11, 3) := by decide +kernel
theorem dX0_init_20 : decode cX0_init 20 = .ok (.arraylength, 1) := by decide +kernel
theorem dX0_init_21 : decode cX0_init 21 = .ok (.if_icmp .ge 22, 3) := by decide +kernel
theorem dX0_init_24 : decode cX0_init 24 = .ok (.aload_n 0, 1) := by decide +kernel
theorem dX0_init_25 : decode cX0_init 25 = .ok (.getfield 11, 3) := by decide +kernel
theorem dX0_init_28 : decode cX0_init 28 = .ok (.iload_n 1, 1) := by decide +kernel
theorem dX0_init_29 : decode cX0_init 29 = .ok (.new 9, 3) := by decide +kernel
theorem dX0_init_32 : decode cX0_init 32 = .ok (.dup, 1) := by decide +kernel
theorem dX0_init_33 : decode cX0_init 33 = .ok (.invokespecial 17, 3) := by decide +kernel
theorem dX0_init_36 : decode cX0_init 36 = .ok (.aastore, 1) := by decide +kernel
theorem dX0_init_37 : decode cX0_init 37 = .ok (.iinc 1 1, 3) := by decide +kernel
theorem dX0_init_40 : decode cX0_init 40 = .ok (.goto (-25), 3) := by decide +kernel
theorem dX0_init_43 : decode cX0_init 43 = .ok (.return_, 1) := by decide +kernel
theorem dX0_forget_0 : decode cX0_forget 0 = .ok (.aload_n 0, 1) := by decide +kernel
theorem dX0_forget_1 : decode cX0_forget 1 = .ok (.iconst 0, 1) := by decide +kernel
theorem dX0_forget_2 : decode cX0_forget 2 = .ok (.putfield 18, 3) := by decide +kernel
theorem dX0_forget_5 : decode cX0_forget 5 = .ok (.return_, 1) := by decide +kernel
set_option maxRecDepth 20000 in
theorem ggX0_remember_X2_copyFrom : GoodIn wsX0_remember wsX2_copyFrom := goodIn_r _ [7, 8, 9, 10, 11, 12, 13, 14, 15, 16, 17, 18, 19, 20, 21, 25, 26, 27, 28, 29, 30, 31, 32, 33, 34, 35] (by decide +kernel) (by decide +kernel)
set_option maxRecDepth 20000 in
theorem gX0_remember_X2_copyFrom_n25 : GoodIn wsX0_remember (wsX2_copyFrom) := ggX0_remember_X2_copyFrom
theorem dX0_remember_0 : decode cX0_remember 0 = .ok (.aload_n 0, 1) := by decide +kernel
theorem dX0_remember_1 : decode cX0_remember 1 = .ok (.getfield 18, 3) := by decide +kernel
theorem dX0_remember_4 : decode cX0_remember 4 = .ok (.bipush 14, 2) := by decide +kernel
theorem dX0_remember_6 : decode cX0_remember 6 = .ok (.if_icmp .ne 26, 3) := by decide +kernel
theorem dX0_remember_9 : decode cX0_remember 9 = .ok (.aload_n 0, 1) := by decide +kernel
theorem dX0_remember_10 : decode cX0_remember 10 = .ok (.aload_n 0, 1) := by decide +kernel
theorem dX0_remember_11 : decode cX0_remember 11 = .ok (.getfield 22, 3) := by decide +kernel
theorem dX0_remember_14 : decode cX0_remember 14 = .ok (.iconst 1, 1) := by decide +kernel
theorem dX0_remember_15 : decode cX0_remember 15 = .ok (.iadd, 1) := by decide +kernel
theorem dX0_remember_16 : decode cX0_remember 16 = .ok (.bipush 14, 2) := by decide +kernel
theorem dX0_remember_18 : decode cX0_remember 18 = .ok (.irem, 1) := by decide +kernel
theorem dX0_remember_19 : decode cX0_remember 19 = .ok (.putfield 22, 3) := by decide +kernel
theorem dX0_remember_22 : decode cX0_remember 22 = .ok (.aload_n 0, 1) := by decide +kernel
theorem dX0_remember_23 : decode cX0_remember 23 = .ok (.dup, 1) := by decide +kernel
theorem dX0_remember_24 : decode cX0_remember 24 = .ok (.getfield 18, 3) := by decide +kernel
theorem dX0_remember_27 : decode cX0_remember 27 = .ok (.iconst 1, 1) := by decide +kernel
theorem dX0_remember_28 : decode cX0_remember 28 = .ok (.isub, 1) := by decide +kernel
theorem dX0_remember_29 : decode cX0_remember 29 = .ok (.putfield 18, 3) := by decide +kernel
theorem dX0_remember_32 : decode cX0_remember 32 = .ok (.aload_n 0, 1) := by decide +kernel
theorem dX0_remember_33 : decode cX0_remember 33 = .ok (.getfield 22, 3) := by decide +kernel
theorem dX0_remember_36 : decode cX0_remember 36 = .ok (.aload_n 0, 1) := by decide +kernel
theorem dX0_remember_37 : decode cX0_remember 37 = .ok (.getfield 18, 3) := by decide +kernel
theorem dX0_remember_40 : decode cX0_remember 40 = .ok (.iadd, 1) := by decide +kernel
theorem dX0_remember_41 : decode cX0_remember 41 = .ok (.bipush 14, 2) := by decide +kernel
theorem dX0_remember_43 : decode cX0_remember 43 = .ok (.irem, 1) := by decide +kernel
theorem dX0_remember_44 : decode cX0_remember 44 = .ok (.istore_n 2, 1) := by decide +kernel
theorem dX0_remember_45 : decode cX0_remember 45 = .ok (.iload_n 2, 1) := by decide +kernel
theorem dX0_remember_46 : decode cX0_remember 46 = .ok (.ifCond .lt 41, 3) := by decide +kernel
theorem dX0_remember_49 : decode cX0_remember 49 = .ok (.iload_n 2, 1) := by decide +kernel
theorem dX0_remember_50 : decode cX0_remember 50 = .ok (.aload_n 0, 1) := by decide +kernel
theorem dX0_remember_51 : decode cX0_remember 51 = .ok (.getfield 11, 3) := by decide +kernel
theorem dX0_remember_54 : decode cX0_remember 54 = .ok (.arraylength, 1) := by decide +kernel
theorem dX0_remember_55 : decode cX0_remember 55 = .ok (.if_icmp .ge 32, 3) := by decide +kernel
theorem dX0_remember_58 : decode cX0_remember 58 = .ok (.aload_n 0, 1) := by decide +kernel
theorem dX0_remember_59 : decode cX0_remember 59 = .ok (.getfield 11, 3) := by decide +kernel
theorem dX0_remember_62 : decode cX0_remember 62 = .ok (.iload_n 2, 1) := by decide +kernel
theorem dX0_remember_63 : decode cX0_remember 63 = .ok (.aaload, 1) := by decide +kernel
theorem dX0_remember_64 : decode cX0_remember 64 = .ok (.ifnull 23, 3) := by decide +kernel
theorem dX0_remember_67 : decode cX0_remember 67 = .ok (.aload_n 0, 1) := by decide +kernel
theorem dX0_remember_68 : decode cX0_remember 68 = .ok (.getfield 11, 3) := by decide +kernel
theorem dX0_remember_71 : decode cX0_remember 71 = .ok (.iload_n 2, 1) := by decide +kernel
theorem dX0_remember_72 : decode cX0_remember 72 = .ok (.aaload, 1) := by decide +kernel
theorem dX0_remember_73 : decode cX0_remember 73 = .ok (.aload_n 1, 1) := by decide +kernel
theorem dX0_remember_74 : decode cX0_remember 74 = .ok (.invokevirtual 25, 3) := by decide +kernel
theorem dX0_remember_77 : decode cX0_remember 77 = .ok (.aload_n 0, 1) := by decide +kernel
theorem dX0_remember_78 : decode cX0_remember 78 = .ok (.dup, 1) := by decide +kernel
theorem dX0_remember_79 : decode cX0_remember 79 = .ok (.getfield 18, 3) := by decide +kernel
theorem dX0_remember_82 : decode cX0_remember 82 = .ok (.iconst 1, 1) := by decide +kernel
theorem dX0_remember_83 : decode cX0_remember 83 = .ok (.iadd, 1) := by decide +kernel
theorem dX0_remember_84 : decode cX0_remember 84 = .ok (.putfield 18, 3) := by decide +kernel
theorem dX0_remember_87 : decode cX0_remember 87 = .ok (.return_, 1) := by decide +kernel
set_option maxRecDepth 20000 in
theorem ggX0_takeBack_X2_copyFrom : GoodIn wsX0_takeBack wsX2_copyFrom := goodIn_r _ [7, 8, 9, 10, 11, 12, 13, 14, 15, 16, 17, 18, 19, 20, 21, 25, 26, 27, 28, 29, 30, 31, 32, 33, 34, 35] (by decide +kernel) (by decide +kernel)
set_option maxRecDepth 20000 in
theorem gX0_takeBack_X2_copyFrom_n25 : GoodIn wsX0_takeBack (wsX2_copyFrom) := ggX0_takeBack_X2_copyFrom
theorem dX0_takeBack_0 : decode cX0_takeBack 0 = .ok (.aload_n 0, 1) := by decide +kernel
theorem dX0_takeBack_1 : decode cX0_takeBack 1 = .ok (.getfield 18, 3) := by decide +kernel
theorem dX0_takeBack_4 : decode cX0_takeBack 4 = .ok (.ifCond .ne 6, 3) := by decide +kernel
theorem dX0_takeBack_7 : decode cX0_takeBack 7 = .ok (.bipush (-3), 2) := by decide +kernel
theorem dX0_takeBack_9 : decode cX0_takeBack 9 = .ok (.ireturn, 1) := by decide +kernel
theorem dX0_takeBack_10 : decode cX0_takeBack 10 = .ok (.aload_n 0, 1) := by decide +kernel
theorem dX0_takeBack_11 : decode cX0_takeBack 11 = .ok (.getfield 22, 3) := by decide +kernel
theorem dX0_takeBack_14 : decode cX0_takeBack 14 = .ok (.aload_n 0, 1) := by decide +kernel
theorem dX0_takeBack_15 : decode cX0_takeBack 15 = .ok (.getfield 18, 3) := by decide +kernel
theorem dX0_takeBack_18 : decode cX0_takeBack 18 = .ok (.iadd, 1) := by decide +kernel
theorem dX0_takeBack_19 : decode cX0_takeBack 19 = .ok (.iconst 1, 1) := by decide +kernel
theorem dX0_takeBack_20 : decode cX0_takeBack 20 = .ok (.isub, 1) := by decide +kernel
theorem dX0_takeBack_21 : decode cX0_takeBack 21 = .ok (.bipush 14, 2) := by decide +kernel
theorem dX0_takeBack_23 : decode cX0_takeBack 23 = .ok (.irem, 1) := by decide +kernel
theorem dX0_takeBack_24 : decode cX0_takeBack 24 = .ok (.istore_n 2, 1) := by decide +kernel
theorem dX0_takeBack_25 : decode cX0_takeBack 25 = .ok (.iload_n 2, 1) := by decide +kernel
theorem dX0_takeBack_26 : decode cX0_takeBack 26 = .ok (.ifCond .lt 41, 3) := by decide +kernel
theorem dX0_takeBack_29 : decode cX0_takeBack 29 = .ok (.iload_n 2, 1) := by decide +kernel
theorem dX0_takeBack_30 : decode cX0_takeBack 30 = .ok (.aload_n 0, 1) := by decide +kernel
theorem dX0_takeBack_31 : decode cX0_takeBack 31 = .ok (.getfield 11, 3) := by decide +kernel
theorem dX0_takeBack_34 : decode cX0_takeBack 34 = .ok (.arraylength, 1) := by decide +kernel
theorem dX0_takeBack_35 : decode cX0_takeBack 35 = .ok (.if_icmp .ge 32, 3) := by decide +kernel
theorem dX0_takeBack_38 : decode cX0_takeBack 38 = .ok (.aload_n 0, 1) := by decide +kernel
theorem dX0_takeBack_39 : decode cX0_takeBack 39 = .ok (.getfield 11, 3) := by decide +kernel
theorem dX0_takeBack_42 : decode cX0_takeBack 42 = .ok (.iload_n 2, 1) := by decide +kernel
theorem dX0_takeBack_43 : decode cX0_takeBack 43 = .ok (.aaload, 1) := by decide +kernel
theorem dX0_takeBack_44 : decode cX0_takeBack 44 = .ok (.ifnull 23, 3) := by decide +kernel
theorem dX0_takeBack_47 : decode cX0_takeBack 47 = .ok (.aload_n 1, 1) := by decide +kernel
theorem dX0_takeBack_48 : decode cX0_takeBack 48 = .ok (.aload_n 0, 1) := by decide +kernel
theorem dX0_takeBack_49 : decode cX0_takeBack 49 = .ok (.getfield 11, 3) := by decide +kernel
theorem dX0_takeBack_52 : decode cX0_takeBack 52 = .ok (.iload_n 2, 1) := by decide +kernel
theorem dX0_takeBack_53 : decode cX0_takeBack 53 = .ok (.aaload, 1) := by decide +kernel
theorem dX0_takeBack_54 : decode cX0_takeBack 54 = .ok (.invokevirtual 25, 3) := by decide +kernel
theorem dX0_takeBack_57 : decode cX0_takeBack 57 = .ok (.aload_n 0, 1) := by decide +kernel
theorem dX0_takeBack_58 : decode cX0_takeBack 58 = .ok (.dup, 1) := by decide +kernel
theorem dX0_takeBack_59 : decode cX0_takeBack 59 = .ok (.getfield 18, 3) := by decide +kernel
theorem dX0_takeBack_62 : decode cX0_takeBack 62 = .ok (.iconst 1, 1) := by decide +kernel
theorem dX0_takeBack_63 : decode cX0_takeBack 63 = .ok (.isub, 1) := by decide +kernel
theorem dX0_takeBack_64 : decode cX0_takeBack 64 = .ok (.putfield 18, 3) := by decide +kernel
theorem dX0_takeBack_67 : decode cX0_takeBack 67 = .ok (.aload_n 0, 1) := by decide +kernel
theorem dX0_takeBack_68 : decode cX0_takeBack 68 = .ok (.getfield 18, 3) := by decide +kernel
theorem dX0_takeBack_71 : decode cX0_takeBack 71 = .ok (.ireturn, 1) := by decide +kernel
theorem dX1_init_0 : decode cX1_init 0 = .ok (.aload_n 0, 1) := by decide +kernel
theorem dX1_init_1 : decode cX1_init 1 = .ok (.invokespecial 3, 3) := by decide +kernel
theorem dX1_init_4 : decode cX1_init 4 = .ok (.aload_n 0, 1) := by decide +kernel
theorem dX1_init_5 : decode cX1_init 5 = .ok (.iconst 4, 1) := by decide +kernel
theorem dX1_init_6 : decode cX1_init 6 = .ok (.newarray .int, 2) := by decide +kernel
theorem dX1_init_8 : decode cX1_init 8 = .ok (.putfield 9, 3) := by decide +kernel
theorem dX1_init_11 : decode cX1_init 11 = .ok (.aload_n 0, 1) := by decide +kernel
theorem dX1_init_12 : decode cX1_init 12 = .ok (.iconst 4, 1) := by decide +kernel
theorem dX1_init_13 : decode cX1_init 13 = .ok (.newarray .int, 2) := by decide +kernel
theorem dX1_init_15 : decode cX1_init 15 = .ok (.putfield 15, 3) := by decide +kernel
theorem dX1_init_18 : decode cX1_init 18 = .ok (.aload_n 0, 1) := by decide +kernel
theorem dX1_init_19 : decode cX1_init 19 = .ok (.iconst 4, 1) := by decide +kernel
theorem dX1_init_20 : decode cX1_init 20 = .ok (.newarray .int, 2) := by decide +kernel
theorem dX1_init_22 : decode cX1_init 22 = .ok (.putfield 18, 3) := by decide +kernel
theorem dX1_init_25 : decode cX1_init 25 = .ok (.return_, 1) := by decide +kernel
set_option maxRecDepth 20000 in
theorem ggX1_copyFrom_X7_copyRow : GoodIn wsX1_copyFrom wsX7_copyRow := goodIn_r _ [7] (by decide +kernel) (by decide +kernel)
set_option maxRecDepth 20000 in
theorem gX1_copyFrom_X7_copyRow_n21 : GoodIn wsX1_copyFrom (wsX7_copyRow) := ggX1_copyFrom_X7_copyRow
theorem dX1_copyFrom_0 : decode cX1_copyFrom 0 = .ok (.aload_n 1, 1) := by decide +kernel
theorem dX1_copyFrom_1 : decode cX1_copyFrom 1 = .ok (.getfield 9, 3) := by decide +kernel
theorem dX1_copyFrom_4 : decode cX1_copyFrom 4 = .ok (.aload_n 0, 1) := by decide +kernel
theorem dX1_copyFrom_5 : decode cX1_copyFrom 5 = .ok (.getfield 9, 3) := by decide +kernel
theorem dX1_copyFrom_8 : decode cX1_copyFrom 8 = .ok (.invokestatic 21, 3) := by decide +kernel
theorem dX1_copyFrom_11 : decode cX1_copyFrom 11 = .ok (.aload_n 1, 1) := by decide +kernel
theorem dX1_copyFrom_12 : decode cX1_copyFrom 12 = .ok (.getfield 15, 3) := by decide +kernel
theorem dX1_copyFrom_15 : decode cX1_copyFrom 15 = .ok (.aload_n 0, 1) := by decide +kernel
theorem dX1_copyFrom_16 : decode cX1_copyFrom 16 = .ok (.getfield 15, 3) := by decide +kernel
theorem dX1_copyFrom_19 : decode cX1_copyFrom 19 = .ok (.invokestatic 21, 3) := by decide +kernel
theorem dX1_copyFrom_22 : decode cX1_copyFrom 22 = .ok (.aload_n 1, 1) := by decide +kernel
theorem dX1_copyFrom_23 : decode cX1_copyFrom 23 = .ok (.getfield 18, 3) := by decide +kernel
theorem dX1_copyFrom_26 : decode cX1_copyFrom 26 = .ok (.aload_n 0, 1) := by decide +kernel
theorem dX1_copyFrom_27 : decode cX1_copyFrom 27 = .ok (.getfield 18, 3) := by decide +kernel
theorem dX1_copyFrom_30 : decode cX1_copyFrom 30 = .ok (.invokestatic 21, 3) := by decide +kernel
theorem dX1_copyFrom_33 : decode cX1_copyFrom 33 = .ok (.aload_n 0, 1) := by decide +kernel
theorem dX1_copyFrom_34 : decode cX1_copyFrom 34 = .ok (.aload_n 1, 1) := by decide +kernel
theorem dX1_copyFrom_35 : decode cX1_copyFrom 35 = .ok (.getfield 25, 3) := by decide +kernel
theorem dX1_copyFrom_38 : decode cX1_copyFrom 38 = .ok (.putfield 25, 3) := by decide +kernel
theorem dX1_copyFrom_41 : decode cX1_copyFrom 41 = .ok (.return_, 1) := by decide +kernel
set_option maxRecDepth 20000 in
theorem ggX1_addWind_X7_put : GoodIn wsX1_addWind wsX7_put := goodIn_r _ [7] (by decide +kernel) (by decide +kernel)
set_option maxRecDepth 20000 in
theorem gX1_addWind_X7_put_n29 : GoodIn wsX1_addWind (wsX7_put) := ggX1_addWind_X7_put
theorem dX1_addWind_0 : decode cX1_addWind 0 = .ok (.aload_n 0, 1) := by decide +kernel
theorem dX1_addWind_1 : decode cX1_addWind 1 = .ok (.getfield 9, 3) := by decide +kernel
theorem dX1_addWind_4 : decode cX1_addWind 4 = .ok (.aload_n 0, 1) := by decide +kernel
theorem dX1_addWind_5 : decode cX1_addWind 5 = .ok (.getfield 25, 3) := by decide +kernel
theorem dX1_addWind_8 : decode cX1_addWind 8 = .ok (.iload_n 1, 1) := by decide +kernel
theorem dX1_addWind_9 : decode cX1_addWind 9 = .ok (.invokestatic 29, 3) := by decide +kernel
theorem dX1_addWind_12 : decode cX1_addWind 12 = .ok (.aload_n 0, 1) := by decide +kernel
theorem dX1_addWind_13 : decode cX1_addWind 13 = .ok (.getfield 15, 3) := by decide +kernel
theorem dX1_addWind_16 : decode cX1_addWind 16 = .ok (.aload_n 0, 1) := by decide +kernel
theorem dX1_addWind_17 : decode cX1_addWind 17 = .ok (.getfield 25, 3) := by decide +kernel
theorem dX1_addWind_20 : decode cX1_addWind 20 = .ok (.iload_n 2, 1) := by decide +kernel
theorem dX1_addWind_21 : decode cX1_addWind 21 = .ok (.invokestatic 29, 3) := by decide +kernel
theorem dX1_addWind_24 : decode cX1_addWind 24 = .ok (.aload_n 0, 1) := by decide +kernel
theorem dX1_addWind_25 : decode cX1_addWind 25 = .ok (.getfield 18, 3) := by decide +kernel
theorem dX1_addWind_28 : decode cX1_addWind 28 = .ok (.aload_n 0, 1) := by decide +kernel
theorem dX1_addWind_29 : decode cX1_addWind 29 = .ok (.getfield 25, 3) := by decide +kernel
theorem dX1_addWind_32 : decode cX1_addWind 32 = .ok (.iload_n 3, 1) := by decide +kernel
theorem dX1_addWind_33 : decode cX1_addWind 33 = .ok (.invokestatic 29, 3) := by decide +kernel
theorem dX1_addWind_36 : decode cX1_addWind 36 = .ok (.aload_n 0, 1) := by decide +kernel
theorem dX1_addWind_37 : decode cX1_addWind 37 = .ok (.dup, 1) := by decide +kernel
theorem dX1_addWind_38 : decode cX1_addWind 38 = .ok (.getfield 25, 3) := by decide +kernel
theorem dX1_addWind_41 : decode cX1_addWind 41 = .ok (.iconst 1, 1) := by decide +kernel
theorem dX1_addWind_42 : decode cX1_addWind 42 = .ok (.iadd, 1) := by decide +kernel
theorem dX1_addWind_43 : decode cX1_addWind 43 = .ok (.putfield 25, 3) := by decide +kernel
theorem dX1_addWind_46 : decode cX1_addWind 46 = .ok (.return_, 1) := by decide +kernel
theorem dX1_hasWind_0 : decode cX1_hasWind 0 = .ok (.iload_n 1, 1) := by decide +kernel
theorem dX1_hasWind_1 : decode cX1_hasWind 1 = .ok (.ifCond .lt 15, 3) := by decide +kernel
theorem dX1_hasWind_4 : decode cX1_hasWind 4 = .ok (.iload_n 1, 1) := by decide +kernel
theorem dX1_hasWind_5 : decode cX1_hasWind 5 = .ok (.aload_n 0, 1) := by decide +kernel
theorem dX1_hasWind_6 : decode cX1_hasWind 6 = .ok (.getfield 25, 3) := by decide +kernel
theorem dX1_hasWind_9 : decode cX1_hasWind 9 = .ok (.if_icmp .ge 7, 3) := by decide +kernel
theorem dX1_hasWind_12 : decode cX1_hasWind 12 = .ok (.iconst 1, 1) := by decide +kernel
theorem dX1_hasWind_13 : decode cX1_hasWind 13 = .ok (.goto 4, 3) := by decide +kernel
theorem dX1_hasWind_16 : decode cX1_hasWind 16 = .ok (.iconst 0, 1) := by decide +kernel
theorem dX1_hasWind_17 : decode cX1_hasWind 17 = .ok (.ireturn, 1) := by decide +kernel
set_option maxRecDepth 20000 in
theorem ggX1_waysBehind_X7_at : GoodIn wsX1_waysBehind wsX7_at := goodIn_r _ [5] (by decide +kernel) (by decide +kernel)
set_option maxRecDepth 20000 in
theorem gX1_waysBehind_X7_at_n33 : GoodIn wsX1_waysBehind (wsX7_at) := ggX1_waysBehind_X7_at
set_option maxRecDepth 20000 in
theorem ggX1_waysBehind_X2_yieldingTo : GoodIn wsX1_waysBehind wsX2_yieldingTo := goodIn_r _ [9, 10, 11, 12, 13, 14, 3, 4, 5, 15, 16, 21, 22, 23, 24, 25, 26, 27, 28, 29, 30, 31] (by decide +kernel) (by decide +kernel)
set_option maxRecDepth 20000 in
theorem gX1_waysBehind_X2_yieldingTo_n37 : GoodIn wsX1_waysBehind (wsX2_yieldingTo) := ggX1_waysBehind_X2_yieldingTo
theorem dX1_waysBehind_0 : decode cX1_waysBehind 0 = .ok (.aload_n 0, 1) := by decide +kernel
theorem dX1_waysBehind_1 : decode cX1_waysBehind 1 = .ok (.getfield 9, 3) := by decide +kernel
theorem dX1_waysBehind_4 : decode cX1_waysBehind 4 = .ok (.iload_n 2, 1) := by decide +kernel
theorem dX1_waysBehind_5 : decode cX1_waysBehind 5 = .ok (.invokestatic 33, 3) := by decide +kernel
theorem dX1_waysBehind_8 : decode cX1_waysBehind 8 = .ok (.istore 5, 2) := by decide +kernel
theorem dX1_waysBehind_10 : decode cX1_waysBehind 10 = .ok (.aload_n 1, 1) := by decide +kernel
theorem dX1_waysBehind_11 : decode cX1_waysBehind 11 = .ok (.iload 5, 2) := by decide +kernel
theorem dX1_waysBehind_13 : decode cX1_waysBehind 13 = .ok (.aload_n 0, 1) := by decide +kernel
theorem dX1_waysBehind_14 : decode cX1_waysBehind 14 = .ok (.getfield 15, 3) := by decide +kernel
theorem dX1_waysBehind_17 : decode cX1_waysBehind 17 = .ok (.iload_n 2, 1) := by decide +kernel
theorem dX1_waysBehind_18 : decode cX1_waysBehind 18 = .ok (.invokestatic 33, 3) := by decide +kernel
theorem dX1_waysBehind_21 : decode cX1_waysBehind 21 = .ok (.iload 4, 2) := by decide +kernel
theorem dX1_waysBehind_23 : decode cX1_waysBehind 23 = .ok (.invokevirtual 37, 3) := by decide +kernel
theorem dX1_waysBehind_26 : decode cX1_waysBehind 26 = .ok (.iload_n 3, 1) := by decide +kernel
theorem dX1_waysBehind_27 : decode cX1_waysBehind 27 = .ok (.iconst (-1), 1) := by decide +kernel
theorem dX1_waysBehind_28 : decode cX1_waysBehind 28 = .ok (.ixor, 1) := by decide +kernel
theorem dX1_waysBehind_29 : decode cX1_waysBehind 29 = .ok (.iand, 1) := by decide +kernel
theorem dX1_waysBehind_30 : decode cX1_waysBehind 30 = .ok (.istore 6, 2) := by decide +kernel
theorem dX1_waysBehind_32 : decode cX1_waysBehind 32 = .ok (.iload 5, 2) := by decide +kernel
theorem dX1_waysBehind_34 : decode cX1_waysBehind 34 = .ok (.iconst 1, 1) := by decide +kernel
theorem dX1_waysBehind_35 : decode cX1_waysBehind 35 = .ok (.if_icmp .ne 13, 3) := by decide +kernel
theorem dX1_waysBehind_38 : decode cX1_waysBehind 38 = .ok (.aload_n 1, 1) := by decide +kernel
theorem dX1_waysBehind_39 : decode cX1_waysBehind 39 = .ok (.getfield 43, 3) := by decide +kernel
theorem dX1_waysBehind_42 : decode cX1_waysBehind 42 = .ok (.iload 6, 2) := by decide +kernel
theorem dX1_waysBehind_44 : decode cX1_waysBehind 44 = .ok (.ior, 1) := by decide +kernel
theorem dX1_waysBehind_45 : decode cX1_waysBehind 45 = .ok (.goto 12, 3) := by decide +kernel
theorem dX1_waysBehind_48 : decode cX1_waysBehind 48 = .ok (.aload_n 1, 1) := by decide +kernel
theorem dX1_waysBehind_49 : decode cX1_waysBehind 49 = .ok (.getfield 43, 3) := by decide +kernel
theorem dX1_waysBehind_52 : decode cX1_waysBehind 52 = .ok (.iload 6, 2) := by decide +kernel
theorem dX1_waysBehind_54 : decode cX1_waysBehind 54 = .ok (.iconst (-1), 1) := by decide +kernel
theorem dX1_waysBehind_55 : decode cX1_waysBehind 55 = .ok (.ixor, 1) := by decide +kernel
theorem dX1_waysBehind_56 : decode cX1_waysBehind 56 = .ok (.iand, 1) := by decide +kernel
theorem dX1_waysBehind_57 : decode cX1_waysBehind 57 = .ok (.ireturn, 1) := by decide +kernel
set_option maxRecDepth 20000 in
theorem ggX1_brookUnder_X1_waysBehind : GoodIn wsX1_brookUnder wsX1_waysBehind := goodIn_r _ [5, 6, 7, 8, 9, 10, 11, 12, 13, 14, 15, 16, 17, 18, 19, 20, 21, 28, 29, 30, 31, 32, 33, 34, 35, 36, 37, 38, 39, 40, 41, 42] (by decide +kernel) (by decide +kernel)
set_option maxRecDepth 20000 in
theorem gX1_brookUnder_X1_waysBehind : GoodIn wsX1_brookUnder (wsV RX1 46 RX1 yX1_waysBehind wsX1_waysBehind) := goodIn_app (goodIn_of _ (by decide +kernel)) ggX1_brookUnder_X1_waysBehind
set_option maxRecDepth 20000 in
theorem ggX1_brookUnder_X2_brookBy : GoodIn wsX1_brookUnder wsX2_brookBy := goodIn_r _ [24, 25, 15, 26, 27, 20, 9, 21, 8, 10, 32, 33, 34, 35, 36, 37, 38, 39, 40, 41, 42] (by decide +kernel) (by decide +kernel)
set_option maxRecDepth 20000 in
theorem gX1_brookUnder_X2_brookBy_n50 : GoodIn wsX1_brookUnder (wsX2_brookBy) := ggX1_brookUnder_X2_brookBy
theorem dX1_brookUnder_0 : decode cX1_brookUnder 0 = .ok (.aload_n 1, 1) := by decide +kernel
theorem dX1_brookUnder_1 : decode cX1_brookUnder 1 = .ok (.aload_n 0, 1) := by decide +kernel
theorem dX1_brookUnder_2 : decode cX1_brookUnder 2 = .ok (.aload_n 1, 1) := by decide +kernel
theorem dX1_brookUnder_3 : decode cX1_brookUnder 3 = .ok (.iload_n 2, 1) := by decide +kernel
theorem dX1_brookUnder_4 : decode cX1_brookUnder 4 = .ok (.iload_n 3, 1) := by decide +kernel
theorem dX1_brookUnder_5 : decode cX1_brookUnder 5 = .ok (.iload 4, 2) := by decide +kernel
theorem dX1_brookUnder_7 : decode cX1_brookUnder 7 = .ok (.invokevirtual 46, 3) := by decide +kernel
theorem dX1_brookUnder_10 : decode cX1_brookUnder 10 = .ok (.invokevirtual 50, 3) := by decide +kernel
theorem dX1_brookUnder_13 : decode cX1_brookUnder 13 = .ok (.ireturn, 1) := by decide +kernel
set_option maxRecDepth 20000 in
theorem ggX1_blowOver_X1_waysBehind : GoodIn wsX1_blowOver wsX1_waysBehind := goodIn_r _ [5, 6, 7, 8, 9, 10, 11, 12, 13, 14, 15, 16, 17, 18, 19, 20, 21, 39, 40, 41, 42, 28, 29, 30, 31, 32, 33, 34, 35, 36, 37, 38] (by decide +kernel) (by decide +kernel)
set_option maxRecDepth 20000 in
theorem gX1_blowOver_X1_waysBehind : GoodIn wsX1_blowOver (wsV RX1 46 RX1 yX1_waysBehind wsX1_waysBehind) := goodIn_app (goodIn_of _ (by decide +kernel)) ggX1_blowOver_X1_waysBehind
set_option maxRecDepth 20000 in
theorem ggX1_blowOver_X2_brookBy : GoodIn wsX1_blowOver wsX2_brookBy := goodIn_r _ [24, 25, 15, 26, 27, 20, 9, 21, 8, 10, 28, 29, 30, 31, 32, 33, 34, 35, 36, 37, 38] (by decide +kernel) (by decide +kernel)
set_option maxRecDepth 20000 in
theorem gX1_blowOver_X2_brookBy_n50 : GoodIn wsX1_blowOver (wsX2_brookBy) := ggX1_blowOver_X2_brookBy
theorem dX1_blowOver_0 : decode cX1_blowOver 0 = .ok (.aload_n 1, 1) := by decide +kernel
theorem dX1_blowOver_1 : decode cX1_blowOver 1 = .ok (.aload_n 0, 1) := by decide +kernel
theorem dX1_blowOver_2 : decode cX1_blowOver 2 = .ok (.aload_n 1, 1) := by decide +kernel
theorem dX1_blowOver_3 : decode cX1_blowOver 3 = .ok (.iload_n 2, 1) := by decide +kernel
theorem dX1_blowOver_4 : decode cX1_blowOver 4 = .ok (.aload_n 1, 1) := by decide +kernel
theorem dX1_blowOver_5 : decode cX1_blowOver 5 = .ok (.getfield 54, 3) := by decide +kernel
theorem dX1_blowOver_8 : decode cX1_blowOver 8 = .ok (.iconst 0, 1) := by decide +kernel
theorem dX1_blowOver_9 : decode cX1_blowOver 9 = .ok (.invokevirtual 46, 3) := by decide +kernel
theorem dX1_blowOver_12 : decode cX1_blowOver 12 = .ok (.putfield 43, 3) := by decide +kernel
theorem dX1_blowOver_15 : decode cX1_blowOver 15 = .ok (.aload_n 1, 1) := by decide +kernel
theorem dX1_blowOver_16 : decode cX1_blowOver 16 = .ok (.aload_n 1, 1) := by decide +kernel
theorem dX1_blowOver_17 : decode cX1_blowOver 17 = .ok (.aload_n 1, 1) := by decide +kernel
theorem dX1_blowOver_18 : decode cX1_blowOver 18 = .ok (.getfield 43, 3) := by decide +kernel
theorem dX1_blowOver_21 : decode cX1_blowOver 21 = .ok (.invokevirtual 50, 3) := by decide +kernel
theorem dX1_blowOver_24 : decode cX1_blowOver 24 = .ok (.putfield 57, 3) := by decide +kernel
theorem dX1_blowOver_27 : decode cX1_blowOver 27 = .ok (.aload_n 1, 1) := by decide +kernel
theorem dX1_blowOver_28 : decode cX1_blowOver 28 = .ok (.iconst 0, 1) := by decide +kernel
theorem dX1_blowOver_29 : decode cX1_blowOver 29 = .ok (.putfield 54, 3) := by decide +kernel
theorem dX1_blowOver_32 : decode cX1_blowOver 32 = .ok (.aload_n 1, 1) := by decide +kernel
theorem dX1_blowOver_33 : decode cX1_blowOver 33 = .ok (.dup, 1) := by decide +kernel
theorem dX1_blowOver_34 : decode cX1_blowOver 34 = .ok (.getfield 60, 3) := by decide +kernel
theorem dX1_blowOver_37 : decode cX1_blowOver 37 = .ok (.iconst 1, 1) := by decide +kernel
theorem dX1_blowOver_38 : decode cX1_blowOver 38 = .ok (.iadd, 1) := by decide +kernel
theorem dX1_blowOver_39 : decode cX1_blowOver 39 = .ok (.putfield 60, 3) := by decide +kernel
theorem dX1_blowOver_42 : decode cX1_blowOver 42 = .ok (.aload_n 1, 1) := by decide +kernel
theorem dX1_blowOver_43 : decode cX1_blowOver 43 = .ok (.getfield 57, 3) := by decide +kernel
theorem dX1_blowOver_46 : decode cX1_blowOver 46 = .ok (.ireturn, 1) := by decide +kernel
set_option maxRecDepth 20000 in
theorem ggX1_yearOf_X1_brookUnder : GoodIn wsX1_yearOf wsX1_brookUnder := goodIn_r _ [7, 8, 9, 10, 6, 11, 12, 13, 14, 15, 16, 17, 18, 19, 20, 21, 22, 23, 24, 25, 26, 27, 28, 29, 30, 31, 32, 33, 34, 35, 36, 37, 38, 39, 40, 41, 42, 43, 44, 45, 46, 47, 48] (by decide +kernel) (by decide +kernel)
set_option maxRecDepth 20000 in
theorem gX1_yearOf_X1_brookUnder : GoodIn wsX1_yearOf (wsV RX1 62 RX1 yX1_brookUnder wsX1_brookUnder) := goodIn_app (goodIn_of _ (by decide +kernel)) ggX1_yearOf_X1_brookUnder
set_option maxRecDepth 20000 in
theorem ggX1_yearOf_X7_at : GoodIn wsX1_yearOf wsX7_at := goodIn_r _ [16] (by decide +kernel) (by decide +kernel)
set_option maxRecDepth 20000 in
theorem gX1_yearOf_X7_at_n33 : GoodIn wsX1_yearOf (wsX7_at) := ggX1_yearOf_X7_at
theorem dX1_yearOf_0 : decode cX1_yearOf 0 = .ok (.iconst 0, 1) := by decide +kernel
theorem dX1_yearOf_1 : decode cX1_yearOf 1 = .ok (.istore 4, 2) := by decide +kernel
theorem dX1_yearOf_3 : decode cX1_yearOf 3 = .ok (.iconst 0, 1) := by decide +kernel
theorem dX1_yearOf_4 : decode cX1_yearOf 4 = .ok (.istore 5, 2) := by decide +kernel
theorem dX1_yearOf_6 : decode cX1_yearOf 6 = .ok (.iload 5, 2) := by decide +kernel
theorem dX1_yearOf_8 : decode cX1_yearOf 8 = .ok (.aload_n 0, 1) := by decide +kernel
theorem dX1_yearOf_9 : decode cX1_yearOf 9 = .ok (.getfield 25, 3) := by decide +kernel
theorem dX1_yearOf_12 : decode cX1_yearOf 12 = .ok (.if_icmp .ge 39, 3) := by decide +kernel
theorem dX1_yearOf_15 : decode cX1_yearOf 15 = .ok (.aload_n 0, 1) := by decide +kernel
theorem dX1_yearOf_16 : decode cX1_yearOf 16 = .ok (.aload_n 1, 1) := by decide +kernel
theorem dX1_yearOf_17 : decode cX1_yearOf 17 = .ok (.iload 5, 2) := by decide +kernel
theorem dX1_yearOf_19 : decode cX1_yearOf 19 = .ok (.aload_n 1, 1) := by decide +kernel
theorem dX1_yearOf_20 : decode cX1_yearOf 20 = .ok (.getfield 54, 3) := by decide +kernel
theorem dX1_yearOf_23 : decode cX1_yearOf 23 = .ok (.iload_n 3, 1) := by decide +kernel
theorem dX1_yearOf_24 : decode cX1_yearOf 24 = .ok (.invokevirtual 62, 3) := by decide +kernel
theorem dX1_yearOf_27 : decode cX1_yearOf 27 = .ok (.iload_n 2, 1) := by decide +kernel
theorem dX1_yearOf_28 : decode cX1_yearOf 28 = .ok (.if_icmp .ne 17, 3) := by decide +kernel
theorem dX1_yearOf_31 : decode cX1_yearOf 31 = .ok (.iload 4, 2) := by decide +kernel
theorem dX1_yearOf_33 : decode cX1_yearOf 33 = .ok (.aload_n 0, 1) := by decide +kernel
theorem dX1_yearOf_34 : decode cX1_yearOf 34 = .ok (.getfield 18, 3) := by decide +kernel
theorem dX1_yearOf_37 : decode cX1_yearOf 37 = .ok (.iload 5, 2) := by decide +kernel
theorem dX1_yearOf_39 : decode cX1_yearOf 39 = .ok (.invokestatic 33, 3) := by decide +kernel
theorem dX1_yearOf_42 : decode cX1_yearOf 42 = .ok (.iadd, 1) := by decide +kernel
theorem dX1_yearOf_43 : decode cX1_yearOf 43 = .ok (.istore 4, 2) := by decide +kernel
theorem dX1_yearOf_45 : decode cX1_yearOf 45 = .ok (.iinc 5 1, 3) := by decide +kernel
theorem dX1_yearOf_48 : decode cX1_yearOf 48 = .ok (.goto (-42), 3) := by decide +kernel
theorem dX1_yearOf_51 : decode cX1_yearOf 51 = .ok (.iload 4, 2) := by decide +kernel
theorem dX1_yearOf_53 : decode cX1_yearOf 53 = .ok (.ireturn, 1) := by decide +kernel
set_option maxRecDepth 20000 in
theorem ggX1_daysInAll_X7_at : GoodIn wsX1_daysInAll wsX7_at := goodIn_r _ [5] (by decide +kernel) (by decide +kernel)
set_option maxRecDepth 20000 in
theorem gX1_daysInAll_X7_at_n33 : GoodIn wsX1_daysInAll (wsX7_at) := ggX1_daysInAll_X7_at
theorem dX1_daysInAll_0 : decode cX1_daysInAll 0 = .ok (.iconst 0, 1) := by decide +kernel
theorem dX1_daysInAll_1 : decode cX1_daysInAll 1 = .ok (.istore_n 1, 1) := by decide +kernel
theorem dX1_daysInAll_2 : decode cX1_daysInAll 2 = .ok (.iconst 0, 1) := by decide +kernel
theorem dX1_daysInAll_3 : decode cX1_daysInAll 3 = .ok (.istore_n 2, 1) := by decide +kernel
theorem dX1_daysInAll_4 : decode cX1_daysInAll 4 = .ok (.iload_n 2, 1) := by decide +kernel
theorem dX1_daysInAll_5 : decode cX1_daysInAll 5 = .ok (.aload_n 0, 1) := by decide +kernel
theorem dX1_daysInAll_6 : decode cX1_daysInAll 6 = .ok (.getfield 25, 3) := by decide +kernel
theorem dX1_daysInAll_9 : decode cX1_daysInAll 9 = .ok (.if_icmp .ge 20, 3) := by decide +kernel
theorem dX1_daysInAll_12 : decode cX1_daysInAll 12 = .ok (.iload_n 1, 1) := by decide +kernel
theorem dX1_daysInAll_13 : decode cX1_daysInAll 13 = .ok (.aload_n 0, 1) := by decide +kernel
theorem dX1_daysInAll_14 : decode cX1_daysInAll 14 = .ok (.getfield 18, 3) := by decide +kernel
theorem dX1_daysInAll_17 : decode cX1_daysInAll 17 = .ok (.iload_n 2, 1) := by decide +kernel
theorem dX1_daysInAll_18 : decode cX1_daysInAll 18 = .ok (.invokestatic 33, 3) := by decide +kernel
theorem dX1_daysInAll_21 : decode cX1_daysInAll 21 = .ok (.iadd, 1) := by decide +kernel
theorem dX1_daysInAll_22 : decode cX1_daysInAll 22 = .ok (.istore_n 1, 1) := by decide +kernel
theorem dX1_daysInAll_23 : decode cX1_daysInAll 23 = .ok (.iinc 2 1, 3) := by decide +kernel
theorem dX1_daysInAll_26 : decode cX1_daysInAll 26 = .ok (.goto (-22), 3) := by decide +kernel
theorem dX1_daysInAll_29 : decode cX1_daysInAll 29 = .ok (.iload_n 1, 1) := by decide +kernel
theorem dX1_daysInAll_30 : decode cX1_daysInAll 30 = .ok (.ireturn, 1) := by decide +kernel
set_option maxRecDepth 20000 in
theorem ggX1_windOfDay_X7_at : GoodIn wsX1_windOfDay wsX7_at := goodIn_r _ [5] (by decide +kernel) (by decide +kernel)
set_option maxRecDepth 20000 in
theorem gX1_windOfDay_X7_at_n33 : GoodIn wsX1_windOfDay (wsX7_at) := ggX1_windOfDay_X7_at
theorem dX1_windOfDay_0 : decode cX1_windOfDay 0 = .ok (.iload_n 1, 1) := by decide +kernel
theorem dX1_windOfDay_1 : decode cX1_windOfDay 1 = .ok (.istore_n 2, 1) := by decide +kernel
theorem dX1_windOfDay_2 : decode cX1_windOfDay 2 = .ok (.iconst 0, 1) := by decide +kernel
theorem dX1_windOfDay_3 : decode cX1_windOfDay 3 = .ok (.istore_n 3, 1) := by decide +kernel
theorem dX1_windOfDay_4 : decode cX1_windOfDay 4 = .ok (.iload_n 3, 1) := by decide +kernel
theorem dX1_windOfDay_5 : decode cX1_windOfDay 5 = .ok (.aload_n 0, 1) := by decide +kernel
theorem dX1_windOfDay_6 : decode cX1_windOfDay 6 = .ok (.getfield 25, 3) := by decide +kernel
theorem dX1_windOfDay_9 : decode cX1_windOfDay 9 = .ok (.if_icmp .ge 26, 3) := by decide +kernel
theorem dX1_windOfDay_12 : decode cX1_windOfDay 12 = .ok (.iload_n 2, 1) := by decide +kernel
theorem dX1_windOfDay_13 : decode cX1_windOfDay 13 = .ok (.aload_n 0, 1) := by decide +kernel
theorem dX1_windOfDay_14 : decode cX1_windOfDay 14 = .ok (.getfield 18, 3) := by decide +kernel
theorem dX1_windOfDay_17 : decode cX1_windOfDay 17 = .ok (.iload_n 3, 1) := by decide +kernel
theorem dX1_windOfDay_18 : decode cX1_windOfDay 18 = .ok (.invokestatic 33, 3) := by decide +kernel
theorem dX1_windOfDay_21 : decode cX1_windOfDay 21 = .ok (.isub, 1) := by decide +kernel
theorem dX1_windOfDay_22 : decode cX1_windOfDay 22 = .ok (.istore_n 2, 1) := by decide +kernel
theorem dX1_windOfDay_23 : decode cX1_windOfDay 23 = .ok (.iload_n 2, 1) := by decide +kernel
theorem dX1_windOfDay_24 : decode cX1_windOfDay 24 = .ok (.ifCond .ge 5, 3) := by decide +kernel
theorem dX1_windOfDay_27 : decode cX1_windOfDay 27 = .ok (.iload_n 3, 1) := by decide +kernel
theorem dX1_windOfDay_28 : decode cX1_windOfDay 28 = .ok (.ireturn, 1) := by decide +kernel
theorem dX1_windOfDay_29 : decode cX1_windOfDay 29 = .ok (.iinc 3 1, 3) := by decide +kernel
theorem dX1_windOfDay_32 : decode cX1_windOfDay 32 = .ok (.goto (-28), 3) := by decide +kernel
theorem dX1_windOfDay_35 : decode cX1_windOfDay 35 = .ok (.iconst 0, 1) := by decide +kernel
theorem dX1_windOfDay_36 : decode cX1_windOfDay 36 = .ok (.ireturn, 1) := by decide +kernel
theorem dX2_init_0 : decode cX2_init 0 = .ok (.aload_n 0, 1) := by decide +kernel
theorem dX2_init_1 : decode cX2_init 1 = .ok (.invokespecial 3, 3) := by decide +kernel
theorem dX2_init_4 : decode cX2_init 4 = .ok (.aload_n 0, 1) := by decide +kernel
theorem dX2_init_5 : decode cX2_init 5 = .ok (.bipush 10, 2) := by decide +kernel
theorem dX2_init_7 : decode cX2_init 7 = .ok (.newarray .int, 2) := by decide +kernel
theorem dX2_init_9 : decode cX2_init 9 = .ok (.putfield 9, 3) := by decide +kernel
theorem dX2_init_12 : decode cX2_init 12 = .ok (.aload_n 0, 1) := by decide +kernel
theorem dX2_init_13 : decode cX2_init 13 = .ok (.bipush 6, 2) := by decide +kernel
theorem dX2_init_15 : decode cX2_init 15 = .ok (.newarray .int, 2) := by decide +kernel
theorem dX2_init_17 : decode cX2_init 17 = .ok (.putfield 15, 3) := by decide +kernel
theorem dX2_init_20 : decode cX2_init 20 = .ok (.aload_n 0, 1) := by decide +kernel
theorem dX2_init_21 : decode cX2_init 21 = .ok (.bipush 6, 2) := by decide +kernel
theorem dX2_init_23 : decode cX2_init 23 = .ok (.newarray .int, 2) := by decide +kernel
theorem dX2_init_25 : decode cX2_init 25 = .ok (.putfield 18, 3) := by decide +kernel
theorem dX2_init_28 : decode cX2_init 28 = .ok (.aload_n 0, 1) := by decide +kernel
theorem dX2_init_29 : decode cX2_init 29 = .ok (.bipush 6, 2) := by decide +kernel
theorem dX2_init_31 : decode cX2_init 31 = .ok (.newarray .int, 2) := by decide +kernel
theorem dX2_init_33 : decode cX2_init 33 = .ok (.putfield 21, 3) := by decide +kernel
theorem dX2_init_36 : decode cX2_init 36 = .ok (.aload_n 0, 1) := by decide +kernel
theorem dX2_init_37 : decode cX2_init 37 = .ok (.bipush 6, 2) := by decide +kernel
theorem dX2_init_39 : decode cX2_init 39 = .ok (.newarray .int, 2) := by decide +kernel
theorem dX2_init_41 : decode cX2_init 41 = .ok (.putfield 24, 3) := by decide +kernel
theorem dX2_init_44 : decode cX2_init 44 = .ok (.return_, 1) := by decide +kernel
theorem dX2_clear_0 : decode cX2_clear 0 = .ok (.iconst 0, 1) := by decide +kernel
theorem dX2_clear_1 : decode cX2_clear 1 = .ok (.istore_n 1, 1) := by decide +kernel
theorem dX2_clear_2 : decode cX2_clear 2 = .ok (.iload_n 1, 1) := by decide +kernel
theorem dX2_clear_3 : decode cX2_clear 3 = .ok (.aload_n 0, 1) := by decide +kernel
theorem dX2_clear_4 : decode cX2_clear 4 = .ok (.getfield 9, 3) := by decide +kernel
theorem dX2_clear_7 : decode cX2_clear 7 = .ok (.arraylength, 1) := by decide +kernel
theorem dX2_clear_8 : decode cX2_clear 8 = .ok (.if_icmp .ge 16, 3) := by decide +kernel
theorem dX2_clear_11 : decode cX2_clear 11 = .ok (.aload_n 0, 1) := by decide +kernel
theorem dX2_clear_12 : decode cX2_clear 12 = .ok (.getfield 9, 3) := by decide +kernel
theorem dX2_clear_15 : decode cX2_clear 15 = .ok (.iload_n 1, 1) := by decide +kernel
theorem dX2_clear_16 : decode cX2_clear 16 = .ok (.iconst 0, 1) := by decide +kernel
theorem dX2_clear_17 : decode cX2_clear 17 = .ok (.iastore, 1) := by decide +kernel
theorem dX2_clear_18 : decode cX2_clear 18 = .ok (.iinc 1 1, 3) := by decide +kernel
theorem dX2_clear_21 : decode cX2_clear 21 = .ok (.goto (-19), 3) := by decide +kernel
theorem dX2_clear_24 : decode cX2_clear 24 = .ok (.aload_n 0, 1) := by decide +kernel
theorem dX2_clear_25 : decode cX2_clear 25 = .ok (.iconst 0, 1) := by decide +kernel
theorem dX2_clear_26 : decode cX2_clear 26 = .ok (.putfield 27, 3) := by decide +kernel
theorem dX2_clear_29 : decode cX2_clear 29 = .ok (.aload_n 0, 1) := by decide +kernel
theorem dX2_clear_30 : decode cX2_clear 30 = .ok (.iconst 0, 1) := by decide +kernel
theorem dX2_clear_31 : decode cX2_clear 31 = .ok (.putfield 31, 3) := by decide +kernel
theorem dX2_clear_34 : decode cX2_clear 34 = .ok (.aload_n 0, 1) := by decide +kernel
theorem dX2_clear_35 : decode cX2_clear 35 = .ok (.iconst 0, 1) := by decide +kernel
theorem dX2_clear_36 : decode cX2_clear 36 = .ok (.putfield 34, 3) := by decide +kernel
theorem dX2_clear_39 : decode cX2_clear 39 = .ok (.aload_n 0, 1) := by decide +kernel
theorem dX2_clear_40 : decode cX2_clear 40 = .ok (.iconst 0, 1) := by decide +kernel
theorem dX2_clear_41 : decode cX2_clear 41 = .ok (.putfield 37, 3) := by decide +kernel
theorem dX2_clear_44 : decode cX2_clear 44 = .ok (.aload_n 0, 1) := by decide +kernel
theorem dX2_clear_45 : decode cX2_clear 45 = .ok (.iconst 0, 1) := by decide +kernel
theorem dX2_clear_46 : decode cX2_clear 46 = .ok (.putfield 40, 3) := by decide +kernel
theorem dX2_clear_49 : decode cX2_clear 49 = .ok (.aload_n 0, 1) := by decide +kernel
theorem dX2_clear_50 : decode cX2_clear 50 = .ok (.iconst 0, 1) := by decide +kernel
theorem dX2_clear_51 : decode cX2_clear 51 = .ok (.putfield 43, 3) := by decide +kernel
theorem dX2_clear_54 : decode cX2_clear 54 = .ok (.return_, 1) := by decide +kernel
set_option maxRecDepth 20000 in
theorem ggX2_copyFrom_X7_copyRow : GoodIn wsX2_copyFrom wsX7_copyRow := goodIn_r _ [14] (by decide +kernel) (by decide +kernel)
set_option maxRecDepth 20000 in
theorem gX2_copyFrom_X7_copyRow_n46 : GoodIn wsX2_copyFrom (wsX7_copyRow) := ggX2_copyFrom_X7_copyRow
theorem dX2_copyFrom_0 : decode cX2_copyFrom 0 = .ok (.aload_n 1, 1) := by decide +kernel
theorem dX2_copyFrom_1 : decode cX2_copyFrom 1 = .ok (.getfield 9, 3) := by decide +kernel
theorem dX2_copyFrom_4 : decode cX2_copyFrom 4 = .ok (.aload_n 0, 1) := by decide +kernel
theorem dX2_copyFrom_5 : decode cX2_copyFrom 5 = .ok (.getfield 9, 3) := by decide +kernel
theorem dX2_copyFrom_8 : decode cX2_copyFrom 8 = .ok (.invokestatic 46, 3) := by decide +kernel
theorem dX2_copyFrom_11 : decode cX2_copyFrom 11 = .ok (.aload_n 1, 1) := by decide +kernel
theorem dX2_copyFrom_12 : decode cX2_copyFrom 12 = .ok (.getfield 15, 3) := by decide +kernel
theorem dX2_copyFrom_15 : decode cX2_copyFrom 15 = .ok (.aload_n 0, 1) := by decide +kernel
theorem dX2_copyFrom_16 : decode cX2_copyFrom 16 = .ok (.getfield 15, 3) := by decide +kernel
theorem dX2_copyFrom_19 : decode cX2_copyFrom 19 = .ok (.invokestatic 46, 3) := by decide +kernel
theorem dX2_copyFrom_22 : decode cX2_copyFrom 22 = .ok (.aload_n 1, 1) := by decide +kernel
theorem dX2_copyFrom_23 : decode cX2_copyFrom 23 = .ok (.getfield 18, 3) := by decide +kernel
theorem dX2_copyFrom_26 : decode cX2_copyFrom 26 = .ok (.aload_n 0, 1) := by decide +kernel
theorem dX2_copyFrom_27 : decode cX2_copyFrom 27 = .ok (.getfield 18, 3) := by decide +kernel
theorem dX2_copyFrom_30 : decode cX2_copyFrom 30 = .ok (.invokestatic 46, 3) := by decide +kernel
theorem dX2_copyFrom_33 : decode cX2_copyFrom 33 = .ok (.aload_n 1, 1) := by decide +kernel
theorem dX2_copyFrom_34 : decode cX2_copyFrom 34 = .ok (.getfield 21, 3) := by decide +kernel
theorem dX2_copyFrom_37 : decode cX2_copyFrom 37 = .ok (.aload_n 0, 1) := by decide +kernel
theorem dX2_copyFrom_38 : decode cX2_copyFrom 38 = .ok (.getfield 21, 3) := by decide +kernel
theorem dX2_copyFrom_41 : decode cX2_copyFrom 41 = .ok (.invokestatic 46, 3) := by decide +kernel
theorem dX2_copyFrom_44 : decode cX2_copyFrom 44 = .ok (.aload_n 1, 1) := by decide +kernel
theorem dX2_copyFrom_45 : decode cX2_copyFrom 45 = .ok (.getfield 24, 3) := by decide +kernel
theorem dX2_copyFrom_48 : decode cX2_copyFrom 48 = .ok (.aload_n 0, 1) := by decide +kernel
theorem dX2_copyFrom_49 : decode cX2_copyFrom 49 = .ok (.getfield 24, 3) := by decide +kernel
theorem dX2_copyFrom_52 : decode cX2_copyFrom 52 = .ok (.invokestatic 46, 3) := by decide +kernel
theorem dX2_copyFrom_55 : decode cX2_copyFrom 55 = .ok (.aload_n 0, 1) := by decide +kernel
theorem dX2_copyFrom_56 : decode cX2_copyFrom 56 = .ok (.aload_n 1, 1) := by decide +kernel
theorem dX2_copyFrom_57 : decode cX2_copyFrom 57 = .ok (.getfield 27, 3) := by decide +kernel
theorem dX2_copyFrom_60 : decode cX2_copyFrom 60 = .ok (.putfield 27, 3) := by decide +kernel
theorem dX2_copyFrom_63 : decode cX2_copyFrom 63 = .ok (.aload_n 0, 1) := by decide +kernel
theorem dX2_copyFrom_64 : decode cX2_copyFrom 64 = .ok (.aload_n 1, 1) := by decide +kernel
theorem dX2_copyFrom_65 : decode cX2_copyFrom 65 = .ok (.getfield 31, 3) := by decide +kernel
theorem dX2_copyFrom_68 : decode cX2_copyFrom 68 = .ok (.putfield 31, 3) := by decide +kernel
theorem dX2_copyFrom_71 : decode cX2_copyFrom 71 = .ok (.aload_n 0, 1) := by decide +kernel
theorem dX2_copyFrom_72 : decode cX2_copyFrom 72 = .ok (.aload_n 1, 1) := by decide +kernel
theorem dX2_copyFrom_73 : decode cX2_copyFrom 73 = .ok (.getfield 34, 3) := by decide +kernel
theorem dX2_copyFrom_76 : decode cX2_copyFrom 76 = .ok (.putfield 34, 3) := by decide +kernel
theorem dX2_copyFrom_79 : decode cX2_copyFrom 79 = .ok (.aload_n 0, 1) := by decide +kernel
theorem dX2_copyFrom_80 : decode cX2_copyFrom 80 = .ok (.aload_n 1, 1) := by decide +kernel
theorem dX2_copyFrom_81 : decode cX2_copyFrom 81 = .ok (.getfield 37, 3) := by decide +kernel
theorem dX2_copyFrom_84 : decode cX2_copyFrom 84 = .ok (.putfield 37, 3) := by decide +kernel
theorem dX2_copyFrom_87 : decode cX2_copyFrom 87 = .ok (.aload_n 0, 1) := by decide +kernel
theorem dX2_copyFrom_88 : decode cX2_copyFrom 88 = .ok (.aload_n 1, 1) := by decide +kernel
theorem dX2_copyFrom_89 : decode cX2_copyFrom 89 = .ok (.getfield 40, 3) := by decide +kernel
theorem dX2_copyFrom_92 : decode cX2_copyFrom 92 = .ok (.putfield 40, 3) := by decide +kernel
theorem dX2_copyFrom_95 : decode cX2_copyFrom 95 = .ok (.aload_n 0, 1) := by decide +kernel
theorem dX2_copyFrom_96 : decode cX2_copyFrom 96 = .ok (.aload_n 1, 1) := by decide +kernel
theorem dX2_copyFrom_97 : decode cX2_copyFrom 97 = .ok (.getfield 43, 3) := by decide +kernel
theorem dX2_copyFrom_100 : decode cX2_copyFrom 100 = .ok (.putfield 43, 3) := by decide +kernel
theorem dX2_copyFrom_103 : decode cX2_copyFrom 103 = .ok (.return_, 1) := by decide +kernel
set_option maxRecDepth 20000 in
theorem ggX2_addCock_X7_put : GoodIn wsX2_addCock wsX7_put := goodIn_r _ [10] (by decide +kernel) (by decide +kernel)
set_option maxRecDepth 20000 in
theorem gX2_addCock_X7_put_n50 : GoodIn wsX2_addCock (wsX7_put) := ggX2_addCock_X7_put
theorem dX2_addCock_0 : decode cX2_addCock 0 = .ok (.aload_n 0, 1) := by decide +kernel
theorem dX2_addCock_1 : decode cX2_addCock 1 = .ok (.getfield 15, 3) := by decide +kernel
theorem dX2_addCock_4 : decode cX2_addCock 4 = .ok (.aload_n 0, 1) := by decide +kernel
theorem dX2_addCock_5 : decode cX2_addCock 5 = .ok (.getfield 27, 3) := by decide +kernel
theorem dX2_addCock_8 : decode cX2_addCock 8 = .ok (.iload_n 1, 1) := by decide +kernel
theorem dX2_addCock_9 : decode cX2_addCock 9 = .ok (.invokestatic 50, 3) := by decide +kernel
theorem dX2_addCock_12 : decode cX2_addCock 12 = .ok (.aload_n 0, 1) := by decide +kernel
theorem dX2_addCock_13 : decode cX2_addCock 13 = .ok (.getfield 18, 3) := by decide +kernel
theorem dX2_addCock_16 : decode cX2_addCock 16 = .ok (.aload_n 0, 1) := by decide +kernel
theorem dX2_addCock_17 : decode cX2_addCock 17 = .ok (.getfield 27, 3) := by decide +kernel
theorem dX2_addCock_20 : decode cX2_addCock 20 = .ok (.iload_n 3, 1) := by decide +kernel
theorem dX2_addCock_21 : decode cX2_addCock 21 = .ok (.invokestatic 50, 3) := by decide +kernel
theorem dX2_addCock_24 : decode cX2_addCock 24 = .ok (.aload_n 0, 1) := by decide +kernel
theorem dX2_addCock_25 : decode cX2_addCock 25 = .ok (.getfield 21, 3) := by decide +kernel
theorem dX2_addCock_28 : decode cX2_addCock 28 = .ok (.aload_n 0, 1) := by decide +kernel
theorem dX2_addCock_29 : decode cX2_addCock 29 = .ok (.getfield 27, 3) := by decide +kernel
theorem dX2_addCock_32 : decode cX2_addCock 32 = .ok (.iload 4, 2) := by decide +kernel
theorem dX2_addCock_34 : decode cX2_addCock 34 = .ok (.invokestatic 50, 3) := by decide +kernel
theorem dX2_addCock_37 : decode cX2_addCock 37 = .ok (.aload_n 0, 1) := by decide +kernel
theorem dX2_addCock_38 : decode cX2_addCock 38 = .ok (.getfield 24, 3) := by decide +kernel
theorem dX2_addCock_41 : decode cX2_addCock 41 = .ok (.aload_n 0, 1) := by decide +kernel
theorem dX2_addCock_42 : decode cX2_addCock 42 = .ok (.getfield 27, 3) := by decide +kernel
theorem dX2_addCock_45 : decode cX2_addCock 45 = .ok (.iload 5, 2) := by decide +kernel
theorem dX2_addCock_47 : decode cX2_addCock 47 = .ok (.invokestatic 50, 3) := by decide +kernel
theorem dX2_addCock_50 : decode cX2_addCock 50 = .ok (.aload_n 0, 1) := by decide +kernel
theorem dX2_addCock_51 : decode cX2_addCock 51 = .ok (.dup, 1) := by decide +kernel
theorem dX2_addCock_52 : decode cX2_addCock 52 = .ok (.getfield 31, 3) := by decide +kernel
theorem dX2_addCock_55 : decode cX2_addCock 55 = .ok (.iload_n 2, 1) := by decide +kernel
theorem dX2_addCock_56 : decode cX2_addCock 56 = .ok (.aload_n 0, 1) := by decide +kernel
theorem dX2_addCock_57 : decode cX2_addCock 57 = .ok (.getfield 27, 3) := by decide +kernel
theorem dX2_addCock_60 : decode cX2_addCock 60 = .ok (.ishl, 1) := by decide +kernel
theorem dX2_addCock_61 : decode cX2_addCock 61 = .ok (.ior, 1) := by decide +kernel
theorem dX2_addCock_62 : decode cX2_addCock 62 = .ok (.putfield 31, 3) := by decide +kernel
theorem dX2_addCock_65 : decode cX2_addCock 65 = .ok (.aload_n 0, 1) := by decide +kernel
theorem dX2_addCock_66 : decode cX2_addCock 66 = .ok (.dup, 1) := by decide +kernel
theorem dX2_addCock_67 : decode cX2_addCock 67 = .ok (.getfield 34, 3) := by decide +kernel
theorem dX2_addCock_70 : decode cX2_addCock 70 = .ok (.iload 6, 2) := by decide +kernel
theorem dX2_addCock_72 : decode cX2_addCock 72 = .ok (.aload_n 0, 1) := by decide +kernel
theorem dX2_addCock_73 : decode cX2_addCock 73 = .ok (.getfield 27, 3) := by decide +kernel
theorem dX2_addCock_76 : decode cX2_addCock 76 = .ok (.ishl, 1) := by decide +kernel
theorem dX2_addCock_77 : decode cX2_addCock 77 = .ok (.ior, 1) := by decide +kernel
theorem dX2_addCock_78 : decode cX2_addCock 78 = .ok (.putfield 34, 3) := by decide +kernel
theorem dX2_addCock_81 : decode cX2_addCock 81 = .ok (.aload_n 0, 1) := by decide +kernel
theorem dX2_addCock_82 : decode cX2_addCock 82 = .ok (.dup, 1) := by decide +kernel
theorem dX2_addCock_83 : decode cX2_addCock 83 = .ok (.getfield 27, 3) := by decide +kernel
theorem dX2_addCock_86 : decode cX2_addCock 86 = .ok (.iconst 1, 1) := by decide +kernel
theorem dX2_addCock_87 : decode cX2_addCock 87 = .ok (.iadd, 1) := by decide +kernel
theorem dX2_addCock_88 : decode cX2_addCock 88 = .ok (.putfield 27, 3) := by decide +kernel
theorem dX2_addCock_91 : decode cX2_addCock 91 = .ok (.return_, 1) := by decide +kernel
theorem dX2_hasCock_0 : decode cX2_hasCock 0 = .ok (.iload_n 1, 1) := by decide +kernel
theorem dX2_hasCock_1 : decode cX2_hasCock 1 = .ok (.ifCond .lt 15, 3) := by decide +kernel
theorem dX2_hasCock_4 : decode cX2_hasCock 4 = .ok (.iload_n 1, 1) := by decide +kernel
theorem dX2_hasCock_5 : decode cX2_hasCock 5 = .ok (.aload_n 0, 1) := by decide +kernel
theorem dX2_hasCock_6 : decode cX2_hasCock 6 = .ok (.getfield 27, 3) := by decide +kernel
theorem dX2_hasCock_9 : decode cX2_hasCock 9 = .ok (.if_icmp .ge 7, 3) := by decide +kernel
theorem dX2_hasCock_12 : decode cX2_hasCock 12 = .ok (.iconst 1, 1) := by decide +kernel
theorem dX2_hasCock_13 : decode cX2_hasCock 13 = .ok (.goto 4, 3) := by decide +kernel
theorem dX2_hasCock_16 : decode cX2_hasCock 16 = .ok (.iconst 0, 1) := by decide +kernel
theorem dX2_hasCock_17 : decode cX2_hasCock 17 = .ok (.ireturn, 1) := by decide +kernel
theorem dX2_everyCock_0 : decode cX2_everyCock 0 = .ok (.iconst 1, 1) := by decide +kernel
theorem dX2_everyCock_1 : decode cX2_everyCock 1 = .ok (.aload_n 0, 1) := by decide +kernel
theorem dX2_everyCock_2 : decode cX2_everyCock 2 = .ok (.getfield 27, 3) := by decide +kernel
theorem dX2_everyCock_5 : decode cX2_everyCock 5 = .ok (.ishl, 1) := by decide +kernel
theorem dX2_everyCock_6 : decode cX2_everyCock 6 = .ok (.iconst 1, 1) := by decide +kernel
theorem dX2_everyCock_7 : decode cX2_everyCock 7 = .ok (.isub, 1) := by decide +kernel
theorem dX2_everyCock_8 : decode cX2_everyCock 8 = .ok (.ireturn, 1) := by decide +kernel
theorem dX2_treeCells_0 : decode cX2_treeCells 0 = .ok (.iconst 0, 1) := by decide +kernel
theorem dX2_treeCells_1 : decode cX2_treeCells 1 = .ok (.istore_n 1, 1) := by decide +kernel
theorem dX2_treeCells_2 : decode cX2_treeCells 2 = .ok (.iconst 0, 1) := by decide +kernel
theorem dX2_treeCells_3 : decode cX2_treeCells 3 = .ok (.istore_n 2, 1) := by decide +kernel
theorem dX2_treeCells_4 : decode cX2_treeCells 4 = .ok (.iload_n 2, 1) := by decide +kernel
theorem dX2_treeCells_5 : decode cX2_treeCells 5 = .ok (.aload_n 0, 1) := by decide +kernel
theorem dX2_treeCells_6 : decode cX2_treeCells 6 = .ok (.getfield 9, 3) := by decide +kernel
theorem dX2_treeCells_9 : decode cX2_treeCells 9 = .ok (.arraylength, 1) := by decide +kernel
theorem dX2_treeCells_10 : decode cX2_treeCells 10 = .ok (.if_icmp .ge 24, 3) := by decide +kernel
theorem dX2_treeCells_13 : decode cX2_treeCells 13 = .ok (.aload_n 0, 1) := by decide +kernel
theorem dX2_treeCells_14 : decode cX2_treeCells 14 = .ok (.getfield 9, 3) := by decide +kernel
theorem dX2_treeCells_17 : decode cX2_treeCells 17 = .ok (.iload_n 2, 1) := by decide +kernel
theorem dX2_treeCells_18 : decode cX2_treeCells 18 = .ok (.iaload, 1) := by decide +kernel
theorem dX2_treeCells_19 : decode cX2_treeCells 19 = .ok (.ifCond .le 9, 3) := by decide +kernel
theorem dX2_treeCells_22 : decode cX2_treeCells 22 = .ok (.iload_n 1, 1) := by decide +kernel
theorem dX2_treeCells_23 : decode cX2_treeCells 23 = .ok (.iconst 1, 1) := by decide +kernel
theorem dX2_treeCells_24 : decode cX2_treeCells 24 = .ok (.iload_n 2, 1) := by decide +kernel
theorem dX2_treeCells_25 : decode cX2_treeCells 25 = .ok (.ishl, 1) := by decide +kernel
theorem dX2_treeCells_26 : decode cX2_treeCells 26 = .ok (.ior, 1) := by decide +kernel
theorem dX2_treeCells_27 : decode cX2_treeCells 27 = .ok (.istore_n 1, 1) := by decide +kernel
theorem dX2_treeCells_28 : decode cX2_treeCells 28 = .ok (.iinc 2 1, 3) := by decide +kernel
theorem dX2_treeCells_31 : decode cX2_treeCells 31 = .ok (.goto (-27), 3) := by decide +kernel
theorem dX2_treeCells_34 : decode cX2_treeCells 34 = .ok (.iload_n 1, 1) := by decide +kernel
theorem dX2_treeCells_35 : decode cX2_treeCells 35 = .ok (.ireturn, 1) := by decide +kernel
set_option maxRecDepth 20000 in
theorem ggX2_takenCells_X7_at : GoodIn wsX2_takenCells wsX7_at := goodIn_r _ [5] (by decide +kernel) (by decide +kernel)
set_option maxRecDepth 20000 in
theorem gX2_takenCells_X7_at_n54 : GoodIn wsX2_takenCells (wsX7_at) := ggX2_takenCells_X7_at
theorem dX2_takenCells_0 : decode cX2_takenCells 0 = .ok (.iconst 0, 1) := by decide +kernel
theorem dX2_takenCells_1 : decode cX2_takenCells 1 = .ok (.istore_n 1, 1) := by decide +kernel
theorem dX2_takenCells_2 : decode cX2_takenCells 2 = .ok (.iconst 0, 1) := by decide +kernel
theorem dX2_takenCells_3 : decode cX2_takenCells 3 = .ok (.istore_n 2, 1) := by decide +kernel
theorem dX2_takenCells_4 : decode cX2_takenCells 4 = .ok (.iload_n 2, 1) := by decide +kernel
theorem dX2_takenCells_5 : decode cX2_takenCells 5 = .ok (.aload_n 0, 1) := by decide +kernel
theorem dX2_takenCells_6 : decode cX2_takenCells 6 = .ok (.getfield 27, 3) := by decide +kernel
theorem dX2_takenCells_9 : decode cX2_takenCells 9 = .ok (.if_icmp .ge 22, 3) := by decide +kernel
theorem dX2_takenCells_12 : decode cX2_takenCells 12 = .ok (.iload_n 1, 1) := by decide +kernel
theorem dX2_takenCells_13 : decode cX2_takenCells 13 = .ok (.iconst 1, 1) := by decide +kernel
theorem dX2_takenCells_14 : decode cX2_takenCells 14 = .ok (.aload_n 0, 1) := by decide +kernel
theorem dX2_takenCells_15 : decode cX2_takenCells 15 = .ok (.getfield 15, 3) := by decide +kernel
theorem dX2_takenCells_18 : decode cX2_takenCells 18 = .ok (.iload_n 2, 1) := by decide +kernel
theorem dX2_takenCells_19 : decode cX2_takenCells 19 = .ok (.invokestatic 54, 3) := by decide +kernel
theorem dX2_takenCells_22 : decode cX2_takenCells 22 = .ok (.ishl, 1) := by decide +kernel
theorem dX2_takenCells_23 : decode cX2_takenCells 23 = .ok (.ior, 1) := by decide +kernel
theorem dX2_takenCells_24 : decode cX2_takenCells 24 = .ok (.istore_n 1, 1) := by decide +kernel
theorem dX2_takenCells_25 : decode cX2_takenCells 25 = .ok (.iinc 2 1, 3) := by decide +kernel
theorem dX2_takenCells_28 : decode cX2_takenCells 28 = .ok (.goto (-24), 3) := by decide +kernel
theorem dX2_takenCells_31 : decode cX2_takenCells 31 = .ok (.iload_n 1, 1) := by decide +kernel
theorem dX2_takenCells_32 : decode cX2_takenCells 32 = .ok (.ireturn, 1) := by decide +kernel
set_option maxRecDepth 20000 in
theorem ggX2_yieldingTo_X7_at : GoodIn wsX2_yieldingTo wsX7_at := goodIn_r _ [8] (by decide +kernel) (by decide +kernel)
set_option maxRecDepth 20000 in
theorem gX2_yieldingTo_X7_at_n54 : GoodIn wsX2_yieldingTo (wsX7_at) := ggX2_yieldingTo_X7_at
set_option maxRecDepth 20000 in
theorem ggX2_yieldingTo_X7_bit : GoodIn wsX2_yieldingTo wsX7_bit := goodIn_r _ [10] (by decide +kernel) (by decide +kernel)
set_option maxRecDepth 20000 in
theorem gX2_yieldingTo_X7_bit_n58 : GoodIn wsX2_yieldingTo (wsX7_bit) := ggX2_yieldingTo_X7_bit
theorem dX2_yieldingTo_0 : decode cX2_yieldingTo 0 = .ok (.iconst 0, 1) := by decide +kernel
theorem dX2_yieldingTo_1 : decode cX2_yieldingTo 1 = .ok (.istore 4, 2) := by decide +kernel
theorem dX2_yieldingTo_3 : decode cX2_yieldingTo 3 = .ok (.iconst 0, 1) := by decide +kernel
theorem dX2_yieldingTo_4 : decode cX2_yieldingTo 4 = .ok (.istore 5, 2) := by decide +kernel
theorem dX2_yieldingTo_6 : decode cX2_yieldingTo 6 = .ok (.iload 5, 2) := by decide +kernel
theorem dX2_yieldingTo_8 : decode cX2_yieldingTo 8 = .ok (.aload_n 0, 1) := by decide +kernel
theorem dX2_yieldingTo_9 : decode cX2_yieldingTo 9 = .ok (.getfield 27, 3) := by decide +kernel
theorem dX2_yieldingTo_12 : decode cX2_yieldingTo 12 = .ok (.if_icmp .ge 92, 3) := by decide +kernel
theorem dX2_yieldingTo_15 : decode cX2_yieldingTo 15 = .ok (.aload_n 0, 1) := by decide +kernel
theorem dX2_yieldingTo_16 : decode cX2_yieldingTo 16 = .ok (.getfield 15, 3) := by decide +kernel
theorem dX2_yieldingTo_19 : decode cX2_yieldingTo 19 = .ok (.iload 5, 2) := by decide +kernel
theorem dX2_yieldingTo_21 : decode cX2_yieldingTo 21 = .ok (.invokestatic 54, 3) := by decide +kernel
theorem dX2_yieldingTo_24 : decode cX2_yieldingTo 24 = .ok (.iload_n 1, 1) := by decide +kernel
theorem dX2_yieldingTo_25 : decode cX2_yieldingTo 25 = .ok (.iconst 1, 1) := by decide +kernel
theorem dX2_yieldingTo_26 : decode cX2_yieldingTo 26 = .ok (.if_icmp .ne 7, 3) := by decide +kernel
theorem dX2_yieldingTo_29 : decode cX2_yieldingTo 29 = .ok (.iconst (-1), 1) := by decide +kernel
theorem dX2_yieldingTo_30 : decode cX2_yieldingTo 30 = .ok (.goto 4, 3) := by decide +kernel
theorem dX2_yieldingTo_33 : decode cX2_yieldingTo 33 = .ok (.iconst 1, 1) := by decide +kernel
theorem dX2_yieldingTo_34 : decode cX2_yieldingTo 34 = .ok (.iadd, 1) := by decide +kernel
theorem dX2_yieldingTo_35 : decode cX2_yieldingTo 35 = .ok (.istore 6, 2) := by decide +kernel
theorem dX2_yieldingTo_37 : decode cX2_yieldingTo 37 = .ok (.iload_n 3, 1) := by decide +kernel
theorem dX2_yieldingTo_38 : decode cX2_yieldingTo 38 = .ok (.iload 6, 2) := by decide +kernel
theorem dX2_yieldingTo_40 : decode cX2_yieldingTo 40 = .ok (.invokestatic 58, 3) := by decide +kernel
theorem dX2_yieldingTo_43 : decode cX2_yieldingTo 43 = .ok (.iconst 1, 1) := by decide +kernel
theorem dX2_yieldingTo_44 : decode cX2_yieldingTo 44 = .ok (.if_icmp .ne 7, 3) := by decide +kernel
theorem dX2_yieldingTo_47 : decode cX2_yieldingTo 47 = .ok (.iconst 0, 1) := by decide +kernel
theorem dX2_yieldingTo_48 : decode cX2_yieldingTo 48 = .ok (.goto 12, 3) := by decide +kernel
theorem dX2_yieldingTo_51 : decode cX2_yieldingTo 51 = .ok (.aload_n 0, 1) := by decide +kernel
theorem dX2_yieldingTo_52 : decode cX2_yieldingTo 52 = .ok (.getfield 9, 3) := by decide +kernel
theorem dX2_yieldingTo_55 : decode cX2_yieldingTo 55 = .ok (.iload 6, 2) := by decide +kernel
theorem dX2_yieldingTo_57 : decode cX2_yieldingTo 57 = .ok (.invokestatic 54, 3) := by decide +kernel
theorem dX2_yieldingTo_60 : decode cX2_yieldingTo 60 = .ok (.istore 7, 2) := by decide +kernel
theorem dX2_yieldingTo_62 : decode cX2_yieldingTo 62 = .ok (.iload_n 2, 1) := by decide +kernel
theorem dX2_yieldingTo_63 : decode cX2_yieldingTo 63 = .ok (.aload_n 0, 1) := by decide +kernel
theorem dX2_yieldingTo_64 : decode cX2_yieldingTo 64 = .ok (.getfield 21, 3) := by decide +kernel
theorem dX2_yieldingTo_67 : decode cX2_yieldingTo 67 = .ok (.iload 5, 2) := by decide +kernel
theorem dX2_yieldingTo_69 : decode cX2_yieldingTo 69 = .ok (.invokestatic 54, 3) := by decide +kernel
theorem dX2_yieldingTo_72 : decode cX2_yieldingTo 72 = .ok (.if_icmp .le 26, 3) := by decide +kernel
theorem dX2_yieldingTo_75 : decode cX2_yieldingTo 75 = .ok (.iload 7, 2) := by decide +kernel
theorem dX2_yieldingTo_77 : decode cX2_yieldingTo 77 = .ok (.aload_n 0, 1) := by decide +kernel
theorem dX2_yieldingTo_78 : decode cX2_yieldingTo 78 = .ok (.getfield 18, 3) := by decide +kernel
theorem dX2_yieldingTo_81 : decode cX2_yieldingTo 81 = .ok (.iload 5, 2) := by decide +kernel
theorem dX2_yieldingTo_83 : decode cX2_yieldingTo 83 = .ok (.invokestatic 54, 3) := by decide +kernel
theorem dX2_yieldingTo_86 : decode cX2_yieldingTo 86 = .ok (.if_icmp .gt 12, 3) := by decide +kernel
theorem dX2_yieldingTo_89 : decode cX2_yieldingTo 89 = .ok (.iload 4, 2) := by decide +kernel
theorem dX2_yieldingTo_91 : decode cX2_yieldingTo 91 = .ok (.iconst 1, 1) := by decide +kernel
theorem dX2_yieldingTo_92 : decode cX2_yieldingTo 92 = .ok (.iload 5, 2) := by decide +kernel
theorem dX2_yieldingTo_94 : decode cX2_yieldingTo 94 = .ok (.ishl, 1) := by decide +kernel
theorem dX2_yieldingTo_95 : decode cX2_yieldingTo 95 = .ok (.ior, 1) := by decide +kernel
theorem dX2_yieldingTo_96 : decode cX2_yieldingTo 96 = .ok (.istore 4, 2) := by decide +kernel
theorem dX2_yieldingTo_98 : decode cX2_yieldingTo 98 = .ok (.iinc 5 1, 3) := by decide +kernel
theorem dX2_yieldingTo_101 : decode cX2_yieldingTo 101 = .ok (.goto (-95), 3) := by decide +kernel
theorem dX2_yieldingTo_104 : decode cX2_yieldingTo 104 = .ok (.iload 4, 2) := by decide +kernel
theorem dX2_yieldingTo_106 : decode cX2_yieldingTo 106 = .ok (.ireturn, 1) := by decide +kernel
set_option maxRecDepth 20000 in
theorem ggX2_brookBy_X7_bit : GoodIn wsX2_brookBy wsX7_bit := goodIn_r _ [7] (by decide +kernel) (by decide +kernel)
set_option maxRecDepth 20000 in
theorem gX2_brookBy_X7_bit_n58 : GoodIn wsX2_brookBy (wsX7_bit) := ggX2_brookBy_X7_bit
set_option maxRecDepth 20000 in
theorem ggX2_brookBy_X7_at : GoodIn wsX2_brookBy wsX7_at := goodIn_r _ [9] (by decide +kernel) (by decide +kernel)
set_option maxRecDepth 20000 in
theorem gX2_brookBy_X7_at_n54 : GoodIn wsX2_brookBy (wsX7_at) := ggX2_brookBy_X7_at
theorem dX2_brookBy_0 : decode cX2_brookBy 0 = .ok (.iconst 0, 1) := by decide +kernel
theorem dX2_brookBy_1 : decode cX2_brookBy 1 = .ok (.istore_n 2, 1) := by decide +kernel
theorem dX2_brookBy_2 : decode cX2_brookBy 2 = .ok (.iload_n 1, 1) := by decide +kernel
theorem dX2_brookBy_3 : decode cX2_brookBy 3 = .ok (.aload_n 0, 1) := by decide +kernel
theorem dX2_brookBy_4 : decode cX2_brookBy 4 = .ok (.getfield 31, 3) := by decide +kernel
theorem dX2_brookBy_7 : decode cX2_brookBy 7 = .ok (.ixor, 1) := by decide +kernel
theorem dX2_brookBy_8 : decode cX2_brookBy 8 = .ok (.istore_n 3, 1) := by decide +kernel
theorem dX2_brookBy_9 : decode cX2_brookBy 9 = .ok (.iconst 0, 1) := by decide +kernel
theorem dX2_brookBy_10 : decode cX2_brookBy 10 = .ok (.istore 4, 2) := by decide +kernel
theorem dX2_brookBy_12 : decode cX2_brookBy 12 = .ok (.iload 4, 2) := by decide +kernel
theorem dX2_brookBy_14 : decode cX2_brookBy 14 = .ok (.aload_n 0, 1) := by decide +kernel
theorem dX2_brookBy_15 : decode cX2_brookBy 15 = .ok (.getfield 27, 3) := by decide +kernel
theorem dX2_brookBy_18 : decode cX2_brookBy 18 = .ok (.if_icmp .ge 57, 3) := by decide +kernel
theorem dX2_brookBy_21 : decode cX2_brookBy 21 = .ok (.iload_n 3, 1) := by decide +kernel
theorem dX2_brookBy_22 : decode cX2_brookBy 22 = .ok (.iload 4, 2) := by decide +kernel
theorem dX2_brookBy_24 : decode cX2_brookBy 24 = .ok (.invokestatic 58, 3) := by decide +kernel
theorem dX2_brookBy_27 : decode cX2_brookBy 27 = .ok (.iconst 1, 1) := by decide +kernel
theorem dX2_brookBy_28 : decode cX2_brookBy 28 = .ok (.if_icmp .ne 15, 3) := by decide +kernel
theorem dX2_brookBy_31 : decode cX2_brookBy 31 = .ok (.aload_n 0, 1) := by decide +kernel
theorem dX2_brookBy_32 : decode cX2_brookBy 32 = .ok (.getfield 24, 3) := by decide +kernel
theorem dX2_brookBy_35 : decode cX2_brookBy 35 = .ok (.iload 4, 2) := by decide +kernel
theorem dX2_brookBy_37 : decode cX2_brookBy 37 = .ok (.invokestatic 54, 3) := by decide +kernel
theorem dX2_brookBy_40 : decode cX2_brookBy 40 = .ok (.goto 4, 3) := by decide +kernel
theorem dX2_brookBy_43 : decode cX2_brookBy 43 = .ok (.iconst 0, 1) := by decide +kernel
theorem dX2_brookBy_44 : decode cX2_brookBy 44 = .ok (.istore 5, 2) := by decide +kernel
theorem dX2_brookBy_46 : decode cX2_brookBy 46 = .ok (.iload_n 2, 1) := by decide +kernel
theorem dX2_brookBy_47 : decode cX2_brookBy 47 = .ok (.aload_n 0, 1) := by decide +kernel
theorem dX2_brookBy_48 : decode cX2_brookBy 48 = .ok (.getfield 31, 3) := by decide +kernel
theorem dX2_brookBy_51 : decode cX2_brookBy 51 = .ok (.iload 4, 2) := by decide +kernel
theorem dX2_brookBy_53 : decode cX2_brookBy 53 = .ok (.invokestatic 58, 3) := by decide +kernel
theorem dX2_brookBy_56 : decode cX2_brookBy 56 = .ok (.ifCond .ne 8, 3) := by decide +kernel
theorem dX2_brookBy_59 : decode cX2_brookBy 59 = .ok (.iload 5, 2) := by decide +kernel
theorem dX2_brookBy_61 : decode cX2_brookBy 61 = .ok (.goto 6, 3) := by decide +kernel
theorem dX2_brookBy_64 : decode cX2_brookBy 64 = .ok (.iload 5, 2) := by decide +kernel
theorem dX2_brookBy_66 : decode cX2_brookBy 66 = .ok (.ineg, 1) := by decide +kernel
theorem dX2_brookBy_67 : decode cX2_brookBy 67 = .ok (.iadd, 1) := by decide +kernel
theorem dX2_brookBy_68 : decode cX2_brookBy 68 = .ok (.istore_n 2, 1) := by decide +kernel
theorem dX2_brookBy_69 : decode cX2_brookBy 69 = .ok (.iinc 4 1, 3) := by decide +kernel
theorem dX2_brookBy_72 : decode cX2_brookBy 72 = .ok (.goto (-60), 3) := by decide +kernel
theorem dX2_brookBy_75 : decode cX2_brookBy 75 = .ok (.iload_n 2, 1) := by decide +kernel
theorem dX2_brookBy_76 : decode cX2_brookBy 76 = .ok (.ifCond .ne 8, 3) := by decide +kernel
theorem dX2_brookBy_79 : decode cX2_brookBy 79 = .ok (.aload_n 0, 1) := by decide +kernel
theorem dX2_brookBy_80 : decode cX2_brookBy 80 = .ok (.getfield 40, 3) := by decide +kernel
theorem dX2_brookBy_83 : decode cX2_brookBy 83 = .ok (.ireturn, 1) := by decide +kernel
theorem dX2_brookBy_84 : decode cX2_brookBy 84 = .ok (.iload_n 2, 1) := by decide +kernel
theorem dX2_brookBy_85 : decode cX2_brookBy 85 = .ok (.ifCond .le 7, 3) := by decide +kernel
theorem dX2_brookBy_88 : decode cX2_brookBy 88 = .ok (.iconst 0, 1) := by decide +kernel
theorem dX2_brookBy_89 : decode cX2_brookBy 89 = .ok (.goto 4, 3) := by decide +kernel
theorem dX2_brookBy_92 : decode cX2_brookBy 92 = .ok (.iconst 1, 1) := by decide +kernel
theorem dX2_brookBy_93 : decode cX2_brookBy 93 = .ok (.ireturn, 1) := by decide +kernel
set_option maxRecDepth 20000 in
theorem ggX2_weightFor_X7_bit : GoodIn wsX2_weightFor wsX7_bit := goodIn_r _ [7] (by decide +kernel) (by decide +kernel)
set_option maxRecDepth 20000 in
theorem gX2_weightFor_X7_bit_n58 : GoodIn wsX2_weightFor (wsX7_bit) := ggX2_weightFor_X7_bit
set_option maxRecDepth 20000 in
theorem ggX2_weightFor_X7_at : GoodIn wsX2_weightFor wsX7_at := goodIn_r _ [9] (by decide +kernel) (by decide +kernel)
set_option maxRecDepth 20000 in
theorem gX2_weightFor_X7_at_n54 : GoodIn wsX2_weightFor (wsX7_at) := ggX2_weightFor_X7_at
theorem dX2_weightFor_0 : decode cX2_weightFor 0 = .ok (.iconst 0, 1) := by decide +kernel
theorem dX2_weightFor_1 : decode cX2_weightFor 1 = .ok (.istore_n 2, 1) := by decide +kernel
theorem dX2_weightFor_2 : decode cX2_weightFor 2 = .ok (.iconst 0, 1) := by decide +kernel
theorem dX2_weightFor_3 : decode cX2_weightFor 3 = .ok (.istore_n 3, 1) := by decide +kernel
theorem dX2_weightFor_4 : decode cX2_weightFor 4 = .ok (.iload_n 3, 1) := by decide +kernel
theorem dX2_weightFor_5 : decode cX2_weightFor 5 = .ok (.aload_n 0, 1) := by decide +kernel
theorem dX2_weightFor_6 : decode cX2_weightFor 6 = .ok (.getfield 27, 3) := by decide +kernel
theorem dX2_weightFor_9 : decode cX2_weightFor 9 = .ok (.if_icmp .ge 44, 3) := by decide +kernel
theorem dX2_weightFor_12 : decode cX2_weightFor 12 = .ok (.aload_n 0, 1) := by decide +kernel
theorem dX2_weightFor_13 : decode cX2_weightFor 13 = .ok (.getfield 31, 3) := by decide +kernel
theorem dX2_weightFor_16 : decode cX2_weightFor 16 = .ok (.iload_n 3, 1) := by decide +kernel
theorem dX2_weightFor_17 : decode cX2_weightFor 17 = .ok (.invokestatic 58, 3) := by decide +kernel
theorem dX2_weightFor_20 : decode cX2_weightFor 20 = .ok (.iload_n 1, 1) := by decide +kernel
theorem dX2_weightFor_21 : decode cX2_weightFor 21 = .ok (.if_icmp .ne 26, 3) := by decide +kernel
theorem dX2_weightFor_24 : decode cX2_weightFor 24 = .ok (.aload_n 0, 1) := by decide +kernel
theorem dX2_weightFor_25 : decode cX2_weightFor 25 = .ok (.getfield 34, 3) := by decide +kernel
theorem dX2_weightFor_28 : decode cX2_weightFor 28 = .ok (.iload_n 3, 1) := by decide +kernel
theorem dX2_weightFor_29 : decode cX2_weightFor 29 = .ok (.invokestatic 58, 3) := by decide +kernel
theorem dX2_weightFor_32 : decode cX2_weightFor 32 = .ok (.iload_n 1, 1) := by decide +kernel
theorem dX2_weightFor_33 : decode cX2_weightFor 33 = .ok (.if_icmp .eq 14, 3) := by decide +kernel
theorem dX2_weightFor_36 : decode cX2_weightFor 36 = .ok (.iload_n 2, 1) := by decide +kernel
theorem dX2_weightFor_37 : decode cX2_weightFor 37 = .ok (.aload_n 0, 1) := by decide +kernel
theorem dX2_weightFor_38 : decode cX2_weightFor 38 = .ok (.getfield 24, 3) := by decide +kernel
theorem dX2_weightFor_41 : decode cX2_weightFor 41 = .ok (.iload_n 3, 1) := by decide +kernel
theorem dX2_weightFor_42 : decode cX2_weightFor 42 = .ok (.invokestatic 54, 3) := by decide +kernel
theorem dX2_weightFor_45 : decode cX2_weightFor 45 = .ok (.iadd, 1) := by decide +kernel
theorem dX2_weightFor_46 : decode cX2_weightFor 46 = .ok (.istore_n 2, 1) := by decide +kernel
theorem dX2_weightFor_47 : decode cX2_weightFor 47 = .ok (.iinc 3 1, 3) := by decide +kernel
theorem dX2_weightFor_50 : decode cX2_weightFor 50 = .ok (.goto (-46), 3) := by decide +kernel
theorem dX2_weightFor_53 : decode cX2_weightFor 53 = .ok (.iload_n 2, 1) := by decide +kernel
theorem dX2_weightFor_54 : decode cX2_weightFor 54 = .ok (.ireturn, 1) := by decide +kernel
set_option maxRecDepth 20000 in
theorem ggX3_init_X2_init : GoodIn wsX3_init wsX2_init := goodIn_r _ [9, 10, 2, 3, 11, 12, 13, 14, 15, 16, 17, 18, 19, 20, 21, 22, 23, 24, 25, 26, 27] (by decide +kernel) (by decide +kernel)
set_option maxRecDepth 20000 in
theorem gX3_init_X2_init_n11 : GoodIn wsX3_init (wsX2_init) := ggX3_init_X2_init
theorem dX3_init_0 : decode cX3_init 0 = .ok (.aload_n 0, 1) := by decide +kernel
theorem dX3_init_1 : decode cX3_init 1 = .ok (.invokespecial 3, 3) := by decide +kernel
theorem dX3_init_4 : decode cX3_init 4 = .ok (.aload_n 0, 1) := by decide +kernel
theorem dX3_init_5 : decode cX3_init 5 = .ok (.new 9, 3) := by decide +kernel
theorem dX3_init_8 : decode cX3_init 8 = .ok (.dup, 1) := by decide +kernel
theorem dX3_init_9 : decode cX3_init 9 = .ok (.invokespecial 11, 3) := by decide +kernel
theorem dX3_init_12 : decode cX3_init 12 = .ok (.putfield 12, 3) := by decide +kernel
theorem dX3_init_15 : decode cX3_init 15 = .ok (.return_, 1) := by decide +kernel
set_option maxRecDepth 20000 in
theorem ggX3_seek_X2_copyFrom : GoodIn wsX3_seek wsX2_copyFrom := goodIn_r _ [6, 7, 8, 9, 10, 11, 12, 13, 14, 15, 16, 17, 18, 19, 20, 69, 70, 71, 72, 73, 74, 75, 76, 77, 78, 79] (by decide +kernel) (by decide +kernel)
set_option maxRecDepth 20000 in
theorem gX3_seek_X2_copyFrom_n22 : GoodIn wsX3_seek (wsX2_copyFrom) := ggX3_seek_X2_copyFrom
set_option maxRecDepth 20000 in
theorem ggX3_seek_X3_tryTrees : GoodIn wsX3_seek wsX3_tryTrees := goodIn_r _ [25, 2, 26, 27, 28, 29, 30, 31, 32, 33, 34, 35, 36, 37, 38, 39, 40, 41, 42, 19, 43, 44, 4, 45, 46, 12, 8, 7, 10, 9, 47, 48, 49, 50, 51, 13, 11, 16, 52, 53, 54, 24, 55, 1, 56, 57, 58, 64, 65, 66, 67, 68, 69, 70, 71, 72, 73, 74, 75, 76, 77, 78, 79, 80, 81, 82, 83] (by decide +kernel) (by decide +kernel)
set_option maxRecDepth 20000 in
theorem gX3_seek_X3_tryTrees : GoodIn wsX3_seek (wsV RX3 26 RX3 yX3_tryTrees wsX3_tryTrees) := goodIn_app (goodIn_of _ (by decide +kernel)) ggX3_seek_X3_tryTrees
set_option maxRecDepth 20000 in
theorem ggX3_seek_X2_takenCells : GoodIn wsX3_seek wsX2_takenCells := goodIn_r _ [61, 12, 8, 42, 19, 43, 69, 70, 71, 72, 73, 74, 75, 76, 77, 78, 79] (by decide +kernel) (by decide +kernel)
set_option maxRecDepth 20000 in
theorem gX3_seek_X2_takenCells_n30 : GoodIn wsX3_seek (wsX2_takenCells) := ggX3_seek_X2_takenCells
set_option maxRecDepth 20000 in
theorem ggX3_seek_X7_bit : GoodIn wsX3_seek wsX7_bit := goodIn_r _ [48] (by decide +kernel) (by decide +kernel)
set_option maxRecDepth 20000 in
theorem gX3_seek_X7_bit_n40 : GoodIn wsX3_seek (wsX7_bit) := ggX3_seek_X7_bit
set_option maxRecDepth 20000 in
theorem ggX3_seek_X7_put : GoodIn wsX3_seek wsX7_put := goodIn_r _ [63] (by decide +kernel) (by decide +kernel)
set_option maxRecDepth 20000 in
theorem gX3_seek_X7_put_n48 : GoodIn wsX3_seek (wsX7_put) := ggX3_seek_X7_put
set_option maxRecDepth 20000 in
theorem ggX3_seek_X7_at : GoodIn wsX3_seek wsX7_at := goodIn_r _ [43] (by decide +kernel) (by decide +kernel)
set_option maxRecDepth 20000 in
theorem gX3_seek_X7_at_n52 : GoodIn wsX3_seek (wsX7_at) := ggX3_seek_X7_at
theorem dX3_seek_0 : decode cX3_seek 0 = .ok (.aload_n 0, 1) := by decide +kernel
theorem dX3_seek_1 : decode cX3_seek 1 = .ok (.iconst (-1), 1) := by decide +kernel
theorem dX3_seek_2 : decode cX3_seek 2 = .ok (.putfield 18, 3) := by decide +kernel
theorem dX3_seek_5 : decode cX3_seek 5 = .ok (.aload_n 0, 1) := by decide +kernel
theorem dX3_seek_6 : decode cX3_seek 6 = .ok (.getfield 12, 3) := by decide +kernel
theorem dX3_seek_9 : decode cX3_seek 9 = .ok (.aload_n 1, 1) := by decide +kernel
theorem dX3_seek_10 : decode cX3_seek 10 = .ok (.invokevirtual 22, 3) := by decide +kernel
theorem dX3_seek_13 : decode cX3_seek 13 = .ok (.aload_n 0, 1) := by decide +kernel
theorem dX3_seek_14 : decode cX3_seek 14 = .ok (.aload_n 2, 1) := by decide +kernel
theorem dX3_seek_15 : decode cX3_seek 15 = .ok (.iload_n 3, 1) := by decide +kernel
theorem dX3_seek_16 : decode cX3_seek 16 = .ok (.bipush (-9), 2) := by decide +kernel
theorem dX3_seek_18 : decode cX3_seek 18 = .ok (.bipush (-9), 2) := by decide +kernel
theorem dX3_seek_20 : decode cX3_seek 20 = .ok (.invokevirtual 26, 3) := by decide +kernel
theorem dX3_seek_23 : decode cX3_seek 23 = .ok (.aload_n 1, 1) := by decide +kernel
theorem dX3_seek_24 : decode cX3_seek 24 = .ok (.invokevirtual 30, 3) := by decide +kernel
theorem dX3_seek_27 : decode cX3_seek 27 = .ok (.istore 4, 2) := by decide +kernel
theorem dX3_seek_29 : decode cX3_seek 29 = .ok (.iconst 0, 1) := by decide +kernel
theorem dX3_seek_30 : decode cX3_seek 30 = .ok (.istore 5, 2) := by decide +kernel
theorem dX3_seek_32 : decode cX3_seek 32 = .ok (.iload 5, 2) := by decide +kernel
theorem dX3_seek_34 : decode cX3_seek 34 = .ok (.aload_n 1, 1) := by decide +kernel
theorem dX3_seek_35 : decode cX3_seek 35 = .ok (.getfield 34, 3) := by decide +kernel
theorem dX3_seek_38 : decode cX3_seek 38 = .ok (.if_icmp .ge 93, 3) := by decide +kernel
theorem dX3_seek_41 : decode cX3_seek 41 = .ok (.iconst 0, 1) := by decide +kernel
theorem dX3_seek_42 : decode cX3_seek 42 = .ok (.istore 6, 2) := by decide +kernel
theorem dX3_seek_44 : decode cX3_seek 44 = .ok (.iload 6, 2) := by decide +kernel
theorem dX3_seek_46 : decode cX3_seek 46 = .ok (.bipush 10, 2) := by decide +kernel
theorem dX3_seek_48 : decode cX3_seek 48 = .ok (.if_icmp .ge 56, 3) := by decide +kernel
theorem dX3_seek_51 : decode cX3_seek 51 = .ok (.aload_n 1, 1) := by decide +kernel
theorem dX3_seek_52 : decode cX3_seek 52 = .ok (.getfield 37, 3) := by decide +kernel
theorem dX3_seek_55 : decode cX3_seek 55 = .ok (.iload 5, 2) := by decide +kernel
theorem dX3_seek_57 : decode cX3_seek 57 = .ok (.invokestatic 40, 3) := by decide +kernel
theorem dX3_seek_60 : decode cX3_seek 60 = .ok (.iload_n 3, 1) := by decide +kernel
theorem dX3_seek_61 : decode cX3_seek 61 = .ok (.if_icmp .ne 37, 3) := by decide +kernel
theorem dX3_seek_64 : decode cX3_seek 64 = .ok (.iload 4, 2) := by decide +kernel
theorem dX3_seek_66 : decode cX3_seek 66 = .ok (.iload 6, 2) := by decide +kernel
theorem dX3_seek_68 : decode cX3_seek 68 = .ok (.invokestatic 40, 3) := by decide +kernel
theorem dX3_seek_71 : decode cX3_seek 71 = .ok (.ifCond .ne 27, 3) := by decide +kernel
theorem dX3_seek_74 : decode cX3_seek 74 = .ok (.aload_n 0, 1) := by decide +kernel
theorem dX3_seek_75 : decode cX3_seek 75 = .ok (.getfield 12, 3) := by decide +kernel
theorem dX3_seek_78 : decode cX3_seek 78 = .ok (.getfield 44, 3) := by decide +kernel
theorem dX3_seek_81 : decode cX3_seek 81 = .ok (.iload 5, 2) := by decide +kernel
theorem dX3_seek_83 : decode cX3_seek 83 = .ok (.iload 6, 2) := by decide +kernel
theorem dX3_seek_85 : decode cX3_seek 85 = .ok (.invokestatic 48, 3) := by decide +kernel
theorem dX3_seek_88 : decode cX3_seek 88 = .ok (.aload_n 0, 1) := by decide +kernel
theorem dX3_seek_89 : decode cX3_seek 89 = .ok (.aload_n 2, 1) := by decide +kernel
theorem dX3_seek_90 : decode cX3_seek 90 = .ok (.iload_n 3, 1) := by decide +kernel
theorem dX3_seek_91 : decode cX3_seek 91 = .ok (.iload 5, 2) := by decide +kernel
theorem dX3_seek_93 : decode cX3_seek 93 = .ok (.iload 6, 2) := by decide +kernel
theorem dX3_seek_95 : decode cX3_seek 95 = .ok (.invokevirtual 26, 3) := by decide +kernel
theorem dX3_seek_98 : decode cX3_seek 98 = .ok (.iinc 6 1, 3) := by decide +kernel
theorem dX3_seek_101 : decode cX3_seek 101 = .ok (.goto (-57), 3) := by decide +kernel
theorem dX3_seek_104 : decode cX3_seek 104 = .ok (.aload_n 0, 1) := by decide +kernel
theorem dX3_seek_105 : decode cX3_seek 105 = .ok (.getfield 12, 3) := by decide +kernel
theorem dX3_seek_108 : decode cX3_seek 108 = .ok (.getfield 44, 3) := by decide +kernel
theorem dX3_seek_111 : decode cX3_seek 111 = .ok (.iload 5, 2) := by decide +kernel
theorem dX3_seek_113 : decode cX3_seek 113 = .ok (.aload_n 1, 1) := by decide +kernel
theorem dX3_seek_114 : decode cX3_seek 114 = .ok (.getfield 44, 3) := by decide +kernel
theorem dX3_seek_117 : decode cX3_seek 117 = .ok (.iload 5, 2) := by decide +kernel
theorem dX3_seek_119 : decode cX3_seek 119 = .ok (.invokestatic 52, 3) := by decide +kernel
theorem dX3_seek_122 : decode cX3_seek 122 = .ok (.invokestatic 48, 3) := by decide +kernel
theorem dX3_seek_125 : decode cX3_seek 125 = .ok (.iinc 5 1, 3) := by decide +kernel
theorem dX3_seek_128 : decode cX3_seek 128 = .ok (.goto (-96), 3) := by decide +kernel
theorem dX3_seek_131 : decode cX3_seek 131 = .ok (.return_, 1) := by decide +kernel
set_option maxRecDepth 20000 in
theorem ggX3_tryTrees_X1_yearOf : GoodIn wsX3_tryTrees wsX1_yearOf := goodIn_r _ [5, 6, 7, 8, 9, 10, 3, 11, 12, 13, 14, 15, 16, 17, 18, 19, 20, 21, 22, 23, 24, 25, 26, 27, 28, 29, 30, 31, 32, 33, 34, 35, 36, 37, 63, 64, 65, 66, 52, 53, 54, 55, 56, 57, 58, 59, 60, 61, 62] (by decide +kernel) (by decide +kernel)
set_option maxRecDepth 20000 in
theorem gX3_tryTrees_X1_yearOf_n56 : GoodIn wsX3_tryTrees (wsX1_yearOf) := ggX3_tryTrees_X1_yearOf
set_option maxRecDepth 20000 in
theorem ggX3_tryTrees_X3_tryOne : GoodIn wsX3_tryTrees wsX3_tryOne := goodIn_r _ [42, 43, 44, 45, 46, 47, 48, 49, 50, 51] (by decide +kernel) (by decide +kernel)
set_option maxRecDepth 20000 in
theorem gX3_tryTrees_X3_tryOne : GoodIn wsX3_tryTrees (wsV RX3 62 RX3 yX3_tryOne wsX3_tryOne) := goodIn_app (goodIn_of _ (by decide +kernel)) ggX3_tryTrees_X3_tryOne
set_option maxRecDepth 20000 in
theorem ggX3_tryTrees_X7_at : GoodIn wsX3_tryTrees wsX7_at := goodIn_r _ [20] (by decide +kernel) (by decide +kernel)
set_option maxRecDepth 20000 in
theorem gX3_tryTrees_X7_at_n52 : GoodIn wsX3_tryTrees (wsX7_at) := ggX3_tryTrees_X7_at
theorem dX3_tryTrees_0 : decode cX3_tryTrees 0 = .ok (.aload_n 0, 1) := by decide +kernel
theorem dX3_tryTrees_1 : decode cX3_tryTrees 1 = .ok (.aload_n 1, 1) := by decide +kernel
theorem dX3_tryTrees_2 : decode cX3_tryTrees 2 = .ok (.aload_n 0, 1) := by decide +kernel
theorem dX3_tryTrees_3 : decode cX3_tryTrees 3 = .ok (.getfield 12, 3) := by decide +kernel
theorem dX3_tryTrees_6 : decode cX3_tryTrees 6 = .ok (.iload_n 2, 1) := by decide +kernel
theorem dX3_tryTrees_7 : decode cX3_tryTrees 7 = .ok (.iconst 0, 1) := by decide +kernel
theorem dX3_tryTrees_8 : decode cX3_tryTrees 8 = .ok (.invokevirtual 56, 3) := by decide +kernel
theorem dX3_tryTrees_11 : decode cX3_tryTrees 11 = .ok (.iload_n 3, 1) := by decide +kernel
theorem dX3_tryTrees_12 : decode cX3_tryTrees 12 = .ok (.iload 4, 2) := by decide +kernel
theorem dX3_tryTrees_14 : decode cX3_tryTrees 14 = .ok (.bipush (-9), 2) := by decide +kernel
theorem dX3_tryTrees_16 : decode cX3_tryTrees 16 = .ok (.invokevirtual 62, 3) := by decide +kernel
theorem dX3_tryTrees_19 : decode cX3_tryTrees 19 = .ok (.iconst 0, 1) := by decide +kernel
theorem dX3_tryTrees_20 : decode cX3_tryTrees 20 = .ok (.istore 5, 2) := by decide +kernel
theorem dX3_tryTrees_22 : decode cX3_tryTrees 22 = .ok (.iload 5, 2) := by decide +kernel
theorem dX3_tryTrees_24 : decode cX3_tryTrees 24 = .ok (.bipush 10, 2) := by decide +kernel
theorem dX3_tryTrees_26 : decode cX3_tryTrees 26 = .ok (.if_icmp .ge 46, 3) := by decide +kernel
theorem dX3_tryTrees_29 : decode cX3_tryTrees 29 = .ok (.aload_n 0, 1) := by decide +kernel
theorem dX3_tryTrees_30 : decode cX3_tryTrees 30 = .ok (.getfield 12, 3) := by decide +kernel
theorem dX3_tryTrees_33 : decode cX3_tryTrees 33 = .ok (.getfield 66, 3) := by decide +kernel
theorem dX3_tryTrees_36 : decode cX3_tryTrees 36 = .ok (.iload 5, 2) := by decide +kernel
theorem dX3_tryTrees_38 : decode cX3_tryTrees 38 = .ok (.invokestatic 52, 3) := by decide +kernel
theorem dX3_tryTrees_41 : decode cX3_tryTrees 41 = .ok (.ifCond .le 25, 3) := by decide +kernel
theorem dX3_tryTrees_44 : decode cX3_tryTrees 44 = .ok (.aload_n 0, 1) := by decide +kernel
theorem dX3_tryTrees_45 : decode cX3_tryTrees 45 = .ok (.aload_n 1, 1) := by decide +kernel
theorem dX3_tryTrees_46 : decode cX3_tryTrees 46 = .ok (.aload_n 0, 1) := by decide +kernel
theorem dX3_tryTrees_47 : decode cX3_tryTrees 47 = .ok (.getfield 12, 3) := by decide +kernel
theorem dX3_tryTrees_50 : decode cX3_tryTrees 50 = .ok (.iload_n 2, 1) := by decide +kernel
theorem dX3_tryTrees_51 : decode cX3_tryTrees 51 = .ok (.iconst 1, 1) := by decide +kernel
theorem dX3_tryTrees_52 : decode cX3_tryTrees 52 = .ok (.iload 5, 2) := by decide +kernel
theorem dX3_tryTrees_54 : decode cX3_tryTrees 54 = .ok (.ishl, 1) := by decide +kernel
theorem dX3_tryTrees_55 : decode cX3_tryTrees 55 = .ok (.invokevirtual 56, 3) := by decide +kernel
theorem dX3_tryTrees_58 : decode cX3_tryTrees 58 = .ok (.iload_n 3, 1) := by decide +kernel
theorem dX3_tryTrees_59 : decode cX3_tryTrees 59 = .ok (.iload 4, 2) := by decide +kernel
theorem dX3_tryTrees_61 : decode cX3_tryTrees 61 = .ok (.iload 5, 2) := by decide +kernel
theorem dX3_tryTrees_63 : decode cX3_tryTrees 63 = .ok (.invokevirtual 62, 3) := by decide +kernel
theorem dX3_tryTrees_66 : decode cX3_tryTrees 66 = .ok (.iinc 5 1, 3) := by decide +kernel
theorem dX3_tryTrees_69 : decode cX3_tryTrees 69 = .ok (.goto (-47), 3) := by decide +kernel
theorem dX3_tryTrees_72 : decode cX3_tryTrees 72 = .ok (.return_, 1) := by decide +kernel
theorem dX3_tryOne_0 : decode cX3_tryOne 0 = .ok (.iload_n 1, 1) := by decide +kernel
theorem dX3_tryOne_1 : decode cX3_tryOne 1 = .ok (.aload_n 0, 1) := by decide +kernel
theorem dX3_tryOne_2 : decode cX3_tryOne 2 = .ok (.getfield 18, 3) := by decide +kernel
theorem dX3_tryOne_5 : decode cX3_tryOne 5 = .ok (.if_icmp .le 24, 3) := by decide +kernel
theorem dX3_tryOne_8 : decode cX3_tryOne 8 = .ok (.aload_n 0, 1) := by decide +kernel
theorem dX3_tryOne_9 : decode cX3_tryOne 9 = .ok (.iload_n 1, 1) := by decide +kernel
theorem dX3_tryOne_10 : decode cX3_tryOne 10 = .ok (.putfield 18, 3) := by decide +kernel
theorem dX3_tryOne_13 : decode cX3_tryOne 13 = .ok (.aload_n 0, 1) := by decide +kernel
theorem dX3_tryOne_14 : decode cX3_tryOne 14 = .ok (.iload_n 2, 1) := by decide +kernel
theorem dX3_tryOne_15 : decode cX3_tryOne 15 = .ok (.putfield 69, 3) := by decide +kernel
theorem dX3_tryOne_18 : decode cX3_tryOne 18 = .ok (.aload_n 0, 1) := by decide +kernel
theorem dX3_tryOne_19 : decode cX3_tryOne 19 = .ok (.iload_n 3, 1) := by decide +kernel
theorem dX3_tryOne_20 : decode cX3_tryOne 20 = .ok (.putfield 72, 3) := by decide +kernel
theorem dX3_tryOne_23 : decode cX3_tryOne 23 = .ok (.aload_n 0, 1) := by decide +kernel
theorem dX3_tryOne_24 : decode cX3_tryOne 24 = .ok (.iload 4, 2) := by decide +kernel
theorem dX3_tryOne_26 : decode cX3_tryOne 26 = .ok (.putfield 75, 3) := by decide +kernel
theorem dX3_tryOne_29 : decode cX3_tryOne 29 = .ok (.return_, 1) := by decide +kernel
set_option maxRecDepth 20000 in
theorem ggX4_init_X2_init : GoodIn wsX4_init wsX2_init := goodIn_r _ [15, 16, 2, 3, 4, 17, 18, 19, 20, 21, 34, 35, 36, 37, 38, 39, 40, 41, 42, 43, 44] (by decide +kernel) (by decide +kernel)
set_option maxRecDepth 20000 in
theorem gX4_init_X2_init_n17 : GoodIn wsX4_init (wsX2_init) := ggX4_init_X2_init
set_option maxRecDepth 20000 in
theorem ggX4_init_X1_init : GoodIn wsX4_init wsX1_init := goodIn_r _ [23, 24, 2, 3, 4, 25, 26, 27, 45, 46, 47, 48] (by decide +kernel) (by decide +kernel)
set_option maxRecDepth 20000 in
theorem gX4_init_X1_init_n24 : GoodIn wsX4_init (wsX1_init) := ggX4_init_X1_init
theorem dX4_init_0 : decode cX4_init 0 = .ok (.aload_n 0, 1) := by decide +kernel
theorem dX4_init_1 : decode cX4_init 1 = .ok (.invokespecial 3, 3) := by decide +kernel
theorem dX4_init_4 : decode cX4_init 4 = .ok (.aload_n 0, 1) := by decide +kernel
theorem dX4_init_5 : decode cX4_init 5 = .ok (.bipush 64, 2) := by decide +kernel
theorem dX4_init_7 : decode cX4_init 7 = .ok (.newarray .int, 2) := by decide +kernel
theorem dX4_init_9 : decode cX4_init 9 = .ok (.putfield 9, 3) := by decide +kernel
theorem dX4_init_12 : decode cX4_init 12 = .ok (.aload_n 0, 1) := by decide +kernel
theorem dX4_init_13 : decode cX4_init 13 = .ok (.new 15, 3) := by decide +kernel
theorem dX4_init_16 : decode cX4_init 16 = .ok (.dup, 1) := by decide +kernel
theorem dX4_init_17 : decode cX4_init 17 = .ok (.invokespecial 17, 3) := by decide +kernel
theorem dX4_init_20 : decode cX4_init 20 = .ok (.putfield 18, 3) := by decide +kernel
theorem dX4_init_23 : decode cX4_init 23 = .ok (.aload_n 0, 1) := by decide +kernel
theorem dX4_init_24 : decode cX4_init 24 = .ok (.new 22, 3) := by decide +kernel
theorem dX4_init_27 : decode cX4_init 27 = .ok (.dup, 1) := by decide +kernel
theorem dX4_init_28 : decode cX4_init 28 = .ok (.invokespecial 24, 3) := by decide +kernel
theorem dX4_init_31 : decode cX4_init 31 = .ok (.putfield 25, 3) := by decide +kernel
theorem dX4_init_34 : decode cX4_init 34 = .ok (.return_, 1) := by decide +kernel
set_option maxRecDepth 20000 in
theorem ggX4_append_X7_put : GoodIn wsX4_append wsX7_put := goodIn_r _ [5] (by decide +kernel) (by decide +kernel)
set_option maxRecDepth 20000 in
theorem gX4_append_X7_put_n33 : GoodIn wsX4_append (wsX7_put) := ggX4_append_X7_put
theorem dX4_append_0 : decode cX4_append 0 = .ok (.aload_n 0, 1) := by decide +kernel
theorem dX4_append_1 : decode cX4_append 1 = .ok (.getfield 29, 3) := by decide +kernel
theorem dX4_append_4 : decode cX4_append 4 = .ok (.bipush 64, 2) := by decide +kernel
theorem dX4_append_6 : decode cX4_append 6 = .ok (.if_icmp .lt 6, 3) := by decide +kernel
theorem dX4_append_9 : decode cX4_append 9 = .ok (.bipush (-4), 2) := by decide +kernel
theorem dX4_append_11 : decode cX4_append 11 = .ok (.ireturn, 1) := by decide +kernel
theorem dX4_append_12 : decode cX4_append 12 = .ok (.aload_n 0, 1) := by decide +kernel
theorem dX4_append_13 : decode cX4_append 13 = .ok (.getfield 9, 3) := by decide +kernel
theorem dX4_append_16 : decode cX4_append 16 = .ok (.aload_n 0, 1) := by decide +kernel
theorem dX4_append_17 : decode cX4_append 17 = .ok (.getfield 29, 3) := by decide +kernel
theorem dX4_append_20 : decode cX4_append 20 = .ok (.iload_n 1, 1) := by decide +kernel
theorem dX4_append_21 : decode cX4_append 21 = .ok (.invokestatic 33, 3) := by decide +kernel
theorem dX4_append_24 : decode cX4_append 24 = .ok (.aload_n 0, 1) := by decide +kernel
theorem dX4_append_25 : decode cX4_append 25 = .ok (.dup, 1) := by decide +kernel
theorem dX4_append_26 : decode cX4_append 26 = .ok (.getfield 29, 3) := by decide +kernel
theorem dX4_append_29 : decode cX4_append 29 = .ok (.iconst 1, 1) := by decide +kernel
theorem dX4_append_30 : decode cX4_append 30 = .ok (.iadd, 1) := by decide +kernel
theorem dX4_append_31 : decode cX4_append 31 = .ok (.putfield 29, 3) := by decide +kernel
theorem dX4_append_34 : decode cX4_append 34 = .ok (.aload_n 0, 1) := by decide +kernel
theorem dX4_append_35 : decode cX4_append 35 = .ok (.getfield 29, 3) := by decide +kernel
theorem dX4_append_38 : decode cX4_append 38 = .ok (.ireturn, 1) := by decide +kernel
set_option maxRecDepth 20000 in
theorem ggX4_firstFault_X2_clear : GoodIn wsX4_firstFault wsX2_clear := goodIn_r _ [10, 11, 12, 13, 14, 15, 16, 17, 77, 78, 79, 80, 81, 82, 83, 84, 85, 86, 87] (by decide +kernel) (by decide +kernel)
set_option maxRecDepth 20000 in
theorem gX4_firstFault_X2_clear_n37 : GoodIn wsX4_firstFault (wsX2_clear) := ggX4_firstFault_X2_clear
set_option maxRecDepth 20000 in
theorem ggX4_firstFault_X7_at : GoodIn wsX4_firstFault wsX7_at := goodIn_r _ [20] (by decide +kernel) (by decide +kernel)
set_option maxRecDepth 20000 in
theorem gX4_firstFault_X7_at_n46 : GoodIn wsX4_firstFault (wsX7_at) := ggX4_firstFault_X7_at
set_option maxRecDepth 20000 in
theorem ggX4_firstFault_X4_readPart : GoodIn wsX4_firstFault wsX4_readPart := goodIn_r _ [25, 5, 3, 1, 2, 6, 18, 19, 20, 26, 8, 27, 28, 11, 29, 30, 31, 24, 32, 33, 34, 35, 36, 4, 37, 38, 39, 40, 41, 42, 43, 44, 45, 46, 47, 12, 48, 49, 50, 51, 52, 53, 54, 13, 14, 55, 56, 57, 58, 59, 60, 61, 62, 63, 64, 65, 66, 67, 68, 69, 70, 71, 72, 77, 78, 79, 80, 81, 82, 83, 84, 85, 86, 87, 73, 74, 75, 76] (by decide +kernel) (by decide +kernel)
set_option maxRecDepth 20000 in
theorem gX4_firstFault_X4_readPart : GoodIn wsX4_firstFault (wsV RX4 54 RX4 yX4_readPart wsX4_readPart) := goodIn_app (goodIn_of _ (by decide +kernel)) ggX4_firstFault_X4_readPart
theorem dX4_firstFault_0 : decode cX4_firstFault 0 = .ok (.aload_n 0, 1) := by decide +kernel
theorem dX4_firstFault_1 : decode cX4_firstFault 1 = .ok (.getfield 18, 3) := by decide +kernel
theorem dX4_firstFault_4 : decode cX4_firstFault 4 = .ok (.invokevirtual 37, 3) := by decide +kernel
theorem dX4_firstFault_7 : decode cX4_firstFault 7 = .ok (.aload_n 0, 1) := by decide +kernel
theorem dX4_firstFault_8 : decode cX4_firstFault 8 = .ok (.getfield 25, 3) := by decide +kernel
theorem dX4_firstFault_11 : decode cX4_firstFault 11 = .ok (.iconst 0, 1) := by decide +kernel
theorem dX4_firstFault_12 : decode cX4_firstFault 12 = .ok (.putfield 40, 3) := by decide +kernel
theorem dX4_firstFault_15 : decode cX4_firstFault 15 = .ok (.aload_n 0, 1) := by decide +kernel
theorem dX4_firstFault_16 : decode cX4_firstFault 16 = .ok (.iconst 0, 1) := by decide +kernel
theorem dX4_firstFault_17 : decode cX4_firstFault 17 = .ok (.putfield 43, 3) := by decide +kernel
theorem dX4_firstFault_20 : decode cX4_firstFault 20 = .ok (.aload_n 0, 1) := by decide +kernel
theorem dX4_firstFault_21 : decode cX4_firstFault 21 = .ok (.aload_n 0, 1) := by decide +kernel
theorem dX4_firstFault_22 : decode cX4_firstFault 22 = .ok (.getfield 29, 3) := by decide +kernel
theorem dX4_firstFault_25 : decode cX4_firstFault 25 = .ok (.ifCond .eq 16, 3) := by decide +kernel
theorem dX4_firstFault_28 : decode cX4_firstFault 28 = .ok (.aload_n 0, 1) := by decide +kernel
theorem dX4_firstFault_29 : decode cX4_firstFault 29 = .ok (.getfield 9, 3) := by decide +kernel
theorem dX4_firstFault_32 : decode cX4_firstFault 32 = .ok (.iconst 0, 1) := by decide +kernel
theorem dX4_firstFault_33 : decode cX4_firstFault 33 = .ok (.invokestatic 46, 3) := by decide +kernel
theorem dX4_firstFault_36 : decode cX4_firstFault 36 = .ok (.bipush 72, 2) := by decide +kernel
theorem dX4_firstFault_38 : decode cX4_firstFault 38 = .ok (.if_icmp .eq 7, 3) := by decide +kernel
theorem dX4_firstFault_41 : decode cX4_firstFault 41 = .ok (.iconst 1, 1) := by decide +kernel
theorem dX4_firstFault_42 : decode cX4_firstFault 42 = .ok (.goto 4, 3) := by decide +kernel
theorem dX4_firstFault_45 : decode cX4_firstFault 45 = .ok (.iconst 0, 1) := by decide +kernel
theorem dX4_firstFault_46 : decode cX4_firstFault 46 = .ok (.putfield 50, 3) := by decide +kernel
theorem dX4_firstFault_49 : decode cX4_firstFault 49 = .ok (.aload_n 0, 1) := by decide +kernel
theorem dX4_firstFault_50 : decode cX4_firstFault 50 = .ok (.getfield 50, 3) := by decide +kernel
theorem dX4_firstFault_53 : decode cX4_firstFault 53 = .ok (.ifCond .ne 13, 3) := by decide +kernel
theorem dX4_firstFault_56 : decode cX4_firstFault 56 = .ok (.aload_n 0, 1) := by decide +kernel
theorem dX4_firstFault_57 : decode cX4_firstFault 57 = .ok (.dup, 1) := by decide +kernel
theorem dX4_firstFault_58 : decode cX4_firstFault 58 = .ok (.getfield 43, 3) := by decide +kernel
theorem dX4_firstFault_61 : decode cX4_firstFault 61 = .ok (.iconst 1, 1) := by decide +kernel
theorem dX4_firstFault_62 : decode cX4_firstFault 62 = .ok (.iadd, 1) := by decide +kernel
theorem dX4_firstFault_63 : decode cX4_firstFault 63 = .ok (.putfield 43, 3) := by decide +kernel
theorem dX4_firstFault_66 : decode cX4_firstFault 66 = .ok (.iconst 0, 1) := by decide +kernel
theorem dX4_firstFault_67 : decode cX4_firstFault 67 = .ok (.istore_n 1, 1) := by decide +kernel
theorem dX4_firstFault_68 : decode cX4_firstFault 68 = .ok (.iload_n 1, 1) := by decide +kernel
theorem dX4_firstFault_69 : decode cX4_firstFault 69 = .ok (.bipush 64, 2) := by decide +kernel
