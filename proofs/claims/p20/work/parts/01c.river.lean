theorem dX0_init_0 : decode cX0_init 0 = .ok (.aload_n 0, 1) := by decide +kernel
theorem dX0_init_1 : decode cX0_init 1 = .ok (.invokespecial 3, 3) := by decide +kernel
theorem dX0_init_4 : decode cX0_init 4 = .ok (.aload_n 0, 1) := by decide +kernel
theorem dX0_init_5 : decode cX0_init 5 = .ok (.bipush 6, 2) := by decide +kernel
theorem dX0_init_7 : decode cX0_init 7 = .ok (.newarray .int, 2) := by decide +kernel
theorem dX0_init_9 : decode cX0_init 9 = .ok (.putfield 9, 3) := by decide +kernel
theorem dX0_init_12 : decode cX0_init 12 = .ok (.aload_n 0, 1) := by decide +kernel
theorem dX0_init_13 : decode cX0_init 13 = .ok (.bipush 6, 2) := by decide +kernel
theorem dX0_init_15 : decode cX0_init 15 = .ok (.newarray .int, 2) := by decide +kernel
theorem dX0_init_17 : decode cX0_init 17 = .ok (.putfield 15, 3) := by decide +kernel
theorem dX0_init_20 : decode cX0_init 20 = .ok (.aload_n 0, 1) := by decide +kernel
theorem dX0_init_21 : decode cX0_init 21 = .ok (.bipush 6, 2) := by decide +kernel
theorem dX0_init_23 : decode cX0_init 23 = .ok (.newarray .int, 2) := by decide +kernel
theorem dX0_init_25 : decode cX0_init 25 = .ok (.putfield 18, 3) := by decide +kernel
theorem dX0_init_28 : decode cX0_init 28 = .ok (.aload_n 0, 1) := by decide +kernel
theorem dX0_init_29 : decode cX0_init 29 = .ok (.bipush 6, 2) := by decide +kernel
theorem dX0_init_31 : decode cX0_init 31 = .ok (.newarray .int, 2) := by decide +kernel
theorem dX0_init_33 : decode cX0_init 33 = .ok (.putfield 21, 3) := by decide +kernel
theorem dX0_init_36 : decode cX0_init 36 = .ok (.return_, 1) := by decide +kernel
theorem dX0_isFarm_0 : decode cX0_isFarm 0 = .ok (.iload_n 1, 1) := by decide +kernel
theorem dX0_isFarm_1 : decode cX0_isFarm 1 = .ok (.ifCond .lt 21, 3) := by decide +kernel
theorem dX0_isFarm_4 : decode cX0_isFarm 4 = .ok (.iload_n 1, 1) := by decide +kernel
theorem dX0_isFarm_5 : decode cX0_isFarm 5 = .ok (.aload_n 0, 1) := by decide +kernel
theorem dX0_isFarm_6 : decode cX0_isFarm 6 = .ok (.getfield 24, 3) := by decide +kernel
theorem dX0_isFarm_9 : decode cX0_isFarm 9 = .ok (.if_icmp .ge 13, 3) := by decide +kernel
theorem dX0_isFarm_12 : decode cX0_isFarm 12 = .ok (.iload_n 1, 1) := by decide +kernel
theorem dX0_isFarm_13 : decode cX0_isFarm 13 = .ok (.bipush 6, 2) := by decide +kernel
theorem dX0_isFarm_15 : decode cX0_isFarm 15 = .ok (.if_icmp .ge 7, 3) := by decide +kernel
theorem dX0_isFarm_18 : decode cX0_isFarm 18 = .ok (.iconst 1, 1) := by decide +kernel
theorem dX0_isFarm_19 : decode cX0_isFarm 19 = .ok (.goto 4, 3) := by decide +kernel
theorem dX0_isFarm_22 : decode cX0_isFarm 22 = .ok (.iconst 0, 1) := by decide +kernel
theorem dX0_isFarm_23 : decode cX0_isFarm 23 = .ok (.ireturn, 1) := by decide +kernel
theorem dX0_append_0 : decode cX0_append 0 = .ok (.aload_n 0, 1) := by decide +kernel
theorem dX0_append_1 : decode cX0_append 1 = .ok (.getfield 24, 3) := by decide +kernel
theorem dX0_append_4 : decode cX0_append 4 = .ok (.istore 5, 2) := by decide +kernel
theorem dX0_append_6 : decode cX0_append 6 = .ok (.iload 5, 2) := by decide +kernel
theorem dX0_append_8 : decode cX0_append 8 = .ok (.ifCond .lt 10, 3) := by decide +kernel
theorem dX0_append_11 : decode cX0_append 11 = .ok (.iload 5, 2) := by decide +kernel
theorem dX0_append_13 : decode cX0_append 13 = .ok (.bipush 6, 2) := by decide +kernel
theorem dX0_append_15 : decode cX0_append 15 = .ok (.if_icmp .lt 5, 3) := by decide +kernel
theorem dX0_append_18 : decode cX0_append 18 = .ok (.iconst (-1), 1) := by decide +kernel
theorem dX0_append_19 : decode cX0_append 19 = .ok (.ireturn, 1) := by decide +kernel
theorem dX0_append_20 : decode cX0_append 20 = .ok (.aload_n 0, 1) := by decide +kernel
theorem dX0_append_21 : decode cX0_append 21 = .ok (.getfield 9, 3) := by decide +kernel
theorem dX0_append_24 : decode cX0_append 24 = .ok (.iload 5, 2) := by decide +kernel
theorem dX0_append_26 : decode cX0_append 26 = .ok (.iload_n 1, 1) := by decide +kernel
theorem dX0_append_27 : decode cX0_append 27 = .ok (.iastore, 1) := by decide +kernel
theorem dX0_append_28 : decode cX0_append 28 = .ok (.aload_n 0, 1) := by decide +kernel
theorem dX0_append_29 : decode cX0_append 29 = .ok (.getfield 15, 3) := by decide +kernel
theorem dX0_append_32 : decode cX0_append 32 = .ok (.iload 5, 2) := by decide +kernel
theorem dX0_append_34 : decode cX0_append 34 = .ok (.iload_n 2, 1) := by decide +kernel
theorem dX0_append_35 : decode cX0_append 35 = .ok (.iastore, 1) := by decide +kernel
theorem dX0_append_36 : decode cX0_append 36 = .ok (.aload_n 0, 1) := by decide +kernel
theorem dX0_append_37 : decode cX0_append 37 = .ok (.getfield 18, 3) := by decide +kernel
theorem dX0_append_40 : decode cX0_append 40 = .ok (.iload 5, 2) := by decide +kernel
theorem dX0_append_42 : decode cX0_append 42 = .ok (.iload_n 3, 1) := by decide +kernel
theorem dX0_append_43 : decode cX0_append 43 = .ok (.iastore, 1) := by decide +kernel
theorem dX0_append_44 : decode cX0_append 44 = .ok (.aload_n 0, 1) := by decide +kernel
theorem dX0_append_45 : decode cX0_append 45 = .ok (.getfield 21, 3) := by decide +kernel
theorem dX0_append_48 : decode cX0_append 48 = .ok (.iload 5, 2) := by decide +kernel
theorem dX0_append_50 : decode cX0_append 50 = .ok (.iload 4, 2) := by decide +kernel
theorem dX0_append_52 : decode cX0_append 52 = .ok (.iastore, 1) := by decide +kernel
theorem dX0_append_53 : decode cX0_append 53 = .ok (.aload_n 0, 1) := by decide +kernel
theorem dX0_append_54 : decode cX0_append 54 = .ok (.dup, 1) := by decide +kernel
theorem dX0_append_55 : decode cX0_append 55 = .ok (.getfield 24, 3) := by decide +kernel
theorem dX0_append_58 : decode cX0_append 58 = .ok (.iconst 1, 1) := by decide +kernel
theorem dX0_append_59 : decode cX0_append 59 = .ok (.iadd, 1) := by decide +kernel
theorem dX0_append_60 : decode cX0_append 60 = .ok (.putfield 24, 3) := by decide +kernel
theorem dX0_append_63 : decode cX0_append 63 = .ok (.iload 5, 2) := by decide +kernel
theorem dX0_append_65 : decode cX0_append 65 = .ok (.ireturn, 1) := by decide +kernel
theorem dX0_farmsAt_0 : decode cX0_farmsAt 0 = .ok (.iconst 0, 1) := by decide +kernel
theorem dX0_farmsAt_1 : decode cX0_farmsAt 1 = .ok (.istore_n 3, 1) := by decide +kernel
theorem dX0_farmsAt_2 : decode cX0_farmsAt 2 = .ok (.iconst 0, 1) := by decide +kernel
theorem dX0_farmsAt_3 : decode cX0_farmsAt 3 = .ok (.istore 4, 2) := by decide +kernel
theorem dX0_farmsAt_5 : decode cX0_farmsAt 5 = .ok (.iload 4, 2) := by decide +kernel
theorem dX0_farmsAt_7 : decode cX0_farmsAt 7 = .ok (.aload_n 0, 1) := by decide +kernel
theorem dX0_farmsAt_8 : decode cX0_farmsAt 8 = .ok (.getfield 24, 3) := by decide +kernel
theorem dX0_farmsAt_11 : decode cX0_farmsAt 11 = .ok (.if_icmp .ge 76, 3) := by decide +kernel
theorem dX0_farmsAt_14 : decode cX0_farmsAt 14 = .ok (.iload_n 1, 1) := by decide +kernel
theorem dX0_farmsAt_15 : decode cX0_farmsAt 15 = .ok (.aload_n 0, 1) := by decide +kernel
theorem dX0_farmsAt_16 : decode cX0_farmsAt 16 = .ok (.getfield 9, 3) := by decide +kernel
theorem dX0_farmsAt_19 : decode cX0_farmsAt 19 = .ok (.iload 4, 2) := by decide +kernel
theorem dX0_farmsAt_21 : decode cX0_farmsAt 21 = .ok (.iaload, 1) := by decide +kernel
theorem dX0_farmsAt_22 : decode cX0_farmsAt 22 = .ok (.if_icmp .lt 59, 3) := by decide +kernel
theorem dX0_farmsAt_25 : decode cX0_farmsAt 25 = .ok (.iload_n 1, 1) := by decide +kernel
theorem dX0_farmsAt_26 : decode cX0_farmsAt 26 = .ok (.aload_n 0, 1) := by decide +kernel
theorem dX0_farmsAt_27 : decode cX0_farmsAt 27 = .ok (.getfield 9, 3) := by decide +kernel
theorem dX0_farmsAt_30 : decode cX0_farmsAt 30 = .ok (.iload 4, 2) := by decide +kernel
theorem dX0_farmsAt_32 : decode cX0_farmsAt 32 = .ok (.iaload, 1) := by decide +kernel
theorem dX0_farmsAt_33 : decode cX0_farmsAt 33 = .ok (.aload_n 0, 1) := by decide +kernel
theorem dX0_farmsAt_34 : decode cX0_farmsAt 34 = .ok (.getfield 18, 3) := by decide +kernel
theorem dX0_farmsAt_37 : decode cX0_farmsAt 37 = .ok (.iload 4, 2) := by decide +kernel
theorem dX0_farmsAt_39 : decode cX0_farmsAt 39 = .ok (.iaload, 1) := by decide +kernel
theorem dX0_farmsAt_40 : decode cX0_farmsAt 40 = .ok (.iadd, 1) := by decide +kernel
theorem dX0_farmsAt_41 : decode cX0_farmsAt 41 = .ok (.if_icmp .ge 40, 3) := by decide +kernel
theorem dX0_farmsAt_44 : decode cX0_farmsAt 44 = .ok (.iload_n 2, 1) := by decide +kernel
theorem dX0_farmsAt_45 : decode cX0_farmsAt 45 = .ok (.aload_n 0, 1) := by decide +kernel
theorem dX0_farmsAt_46 : decode cX0_farmsAt 46 = .ok (.getfield 15, 3) := by decide +kernel
theorem dX0_farmsAt_49 : decode cX0_farmsAt 49 = .ok (.iload 4, 2) := by decide +kernel
theorem dX0_farmsAt_51 : decode cX0_farmsAt 51 = .ok (.iaload, 1) := by decide +kernel
theorem dX0_farmsAt_52 : decode cX0_farmsAt 52 = .ok (.if_icmp .lt 29, 3) := by decide +kernel
theorem dX0_farmsAt_55 : decode cX0_farmsAt 55 = .ok (.iload_n 2, 1) := by decide +kernel
theorem dX0_farmsAt_56 : decode cX0_farmsAt 56 = .ok (.aload_n 0, 1) := by decide +kernel
theorem dX0_farmsAt_57 : decode cX0_farmsAt 57 = .ok (.getfield 15, 3) := by decide +kernel
theorem dX0_farmsAt_60 : decode cX0_farmsAt 60 = .ok (.iload 4, 2) := by decide +kernel
theorem dX0_farmsAt_62 : decode cX0_farmsAt 62 = .ok (.iaload, 1) := by decide +kernel
theorem dX0_farmsAt_63 : decode cX0_farmsAt 63 = .ok (.aload_n 0, 1) := by decide +kernel
theorem dX0_farmsAt_64 : decode cX0_farmsAt 64 = .ok (.getfield 21, 3) := by decide +kernel
theorem dX0_farmsAt_67 : decode cX0_farmsAt 67 = .ok (.iload 4, 2) := by decide +kernel
theorem dX0_farmsAt_69 : decode cX0_farmsAt 69 = .ok (.iaload, 1) := by decide +kernel
theorem dX0_farmsAt_70 : decode cX0_farmsAt 70 = .ok (.iadd, 1) := by decide +kernel
theorem dX0_farmsAt_71 : decode cX0_farmsAt 71 = .ok (.if_icmp .ge 10, 3) := by decide +kernel
theorem dX0_farmsAt_74 : decode cX0_farmsAt 74 = .ok (.iload_n 3, 1) := by decide +kernel
theorem dX0_farmsAt_75 : decode cX0_farmsAt 75 = .ok (.iconst 1, 1) := by decide +kernel
theorem dX0_farmsAt_76 : decode cX0_farmsAt 76 = .ok (.iload 4, 2) := by decide +kernel
theorem dX0_farmsAt_78 : decode cX0_farmsAt 78 = .ok (.ishl, 1) := by decide +kernel
theorem dX0_farmsAt_79 : decode cX0_farmsAt 79 = .ok (.ior, 1) := by decide +kernel
theorem dX0_farmsAt_80 : decode cX0_farmsAt 80 = .ok (.istore_n 3, 1) := by decide +kernel
theorem dX0_farmsAt_81 : decode cX0_farmsAt 81 = .ok (.iinc 4 1, 3) := by decide +kernel
theorem dX0_farmsAt_84 : decode cX0_farmsAt 84 = .ok (.goto (-79), 3) := by decide +kernel
theorem dX0_farmsAt_87 : decode cX0_farmsAt 87 = .ok (.iload_n 3, 1) := by decide +kernel
theorem dX0_farmsAt_88 : decode cX0_farmsAt 88 = .ok (.ireturn, 1) := by decide +kernel
set_option maxRecDepth 20000 in
theorem ggX0_cellsOf_X0_isFarm : GoodIn wsX0_cellsOf wsX0_isFarm := goodIn_r _ [9, 10, 29, 30, 31, 32, 33] (by decide +kernel) (by decide +kernel)
set_option maxRecDepth 20000 in
theorem gX0_cellsOf_X0_isFarm : GoodIn wsX0_cellsOf (wsV RX0 28 RX0 yX0_isFarm wsX0_isFarm) := goodIn_app (goodIn_of _ (by decide +kernel)) ggX0_cellsOf_X0_isFarm
set_option maxRecDepth 20000 in
theorem ggX0_cellsOf_X2_cellNumber : GoodIn wsX0_cellsOf wsX2_cellNumber := goodIn_r _ [13] (by decide +kernel) (by decide +kernel)
set_option maxRecDepth 20000 in
theorem gX0_cellsOf_X2_cellNumber_n32 : GoodIn wsX0_cellsOf (wsX2_cellNumber) := ggX0_cellsOf_X2_cellNumber
set_option maxRecDepth 20000 in
theorem ggX0_cellsOf_X0_isCounted : GoodIn wsX0_cellsOf wsX0_isCounted := goodIn_r _ [16, 17, 12, 18, 19, 20, 21, 22, 23, 24, 25, 26, 27, 28, 34, 35, 36, 37, 38, 39, 40, 41, 42, 43, 44, 45, 46, 47] (by decide +kernel) (by decide +kernel)
set_option maxRecDepth 20000 in
theorem gX0_cellsOf_X0_isCounted : GoodIn wsX0_cellsOf (va_wsS RX0 36 yX0_isCounted wsX0_isCounted) := goodIn_app (goodIn_of _ (by decide +kernel)) ggX0_cellsOf_X0_isCounted
theorem dX0_cellsOf_0 : decode cX0_cellsOf 0 = .ok (.aload_n 0, 1) := by decide +kernel
theorem dX0_cellsOf_1 : decode cX0_cellsOf 1 = .ok (.iload_n 1, 1) := by decide +kernel
theorem dX0_cellsOf_2 : decode cX0_cellsOf 2 = .ok (.invokevirtual 28, 3) := by decide +kernel
theorem dX0_cellsOf_5 : decode cX0_cellsOf 5 = .ok (.ifCond .ne 5, 3) := by decide +kernel
theorem dX0_cellsOf_8 : decode cX0_cellsOf 8 = .ok (.iconst 0, 1) := by decide +kernel
theorem dX0_cellsOf_9 : decode cX0_cellsOf 9 = .ok (.ireturn, 1) := by decide +kernel
theorem dX0_cellsOf_10 : decode cX0_cellsOf 10 = .ok (.iconst 0, 1) := by decide +kernel
theorem dX0_cellsOf_11 : decode cX0_cellsOf 11 = .ok (.istore 4, 2) := by decide +kernel
theorem dX0_cellsOf_13 : decode cX0_cellsOf 13 = .ok (.aload_n 0, 1) := by decide +kernel
theorem dX0_cellsOf_14 : decode cX0_cellsOf 14 = .ok (.getfield 15, 3) := by decide +kernel
theorem dX0_cellsOf_17 : decode cX0_cellsOf 17 = .ok (.iload_n 1, 1) := by decide +kernel
theorem dX0_cellsOf_18 : decode cX0_cellsOf 18 = .ok (.iaload, 1) := by decide +kernel
theorem dX0_cellsOf_19 : decode cX0_cellsOf 19 = .ok (.istore 5, 2) := by decide +kernel
theorem dX0_cellsOf_21 : decode cX0_cellsOf 21 = .ok (.iload 5, 2) := by decide +kernel
theorem dX0_cellsOf_23 : decode cX0_cellsOf 23 = .ok (.aload_n 0, 1) := by decide +kernel
theorem dX0_cellsOf_24 : decode cX0_cellsOf 24 = .ok (.getfield 15, 3) := by decide +kernel
theorem dX0_cellsOf_27 : decode cX0_cellsOf 27 = .ok (.iload_n 1, 1) := by decide +kernel
theorem dX0_cellsOf_28 : decode cX0_cellsOf 28 = .ok (.iaload, 1) := by decide +kernel
theorem dX0_cellsOf_29 : decode cX0_cellsOf 29 = .ok (.aload_n 0, 1) := by decide +kernel
theorem dX0_cellsOf_30 : decode cX0_cellsOf 30 = .ok (.getfield 21, 3) := by decide +kernel
theorem dX0_cellsOf_33 : decode cX0_cellsOf 33 = .ok (.iload_n 1, 1) := by decide +kernel
theorem dX0_cellsOf_34 : decode cX0_cellsOf 34 = .ok (.iaload, 1) := by decide +kernel
theorem dX0_cellsOf_35 : decode cX0_cellsOf 35 = .ok (.iadd, 1) := by decide +kernel
theorem dX0_cellsOf_36 : decode cX0_cellsOf 36 = .ok (.if_icmp .ge 59, 3) := by decide +kernel
theorem dX0_cellsOf_39 : decode cX0_cellsOf 39 = .ok (.aload_n 0, 1) := by decide +kernel
theorem dX0_cellsOf_40 : decode cX0_cellsOf 40 = .ok (.getfield 9, 3) := by decide +kernel
theorem dX0_cellsOf_43 : decode cX0_cellsOf 43 = .ok (.iload_n 1, 1) := by decide +kernel
theorem dX0_cellsOf_44 : decode cX0_cellsOf 44 = .ok (.iaload, 1) := by decide +kernel
theorem dX0_cellsOf_45 : decode cX0_cellsOf 45 = .ok (.istore 6, 2) := by decide +kernel
theorem dX0_cellsOf_47 : decode cX0_cellsOf 47 = .ok (.iload 6, 2) := by decide +kernel
theorem dX0_cellsOf_49 : decode cX0_cellsOf 49 = .ok (.aload_n 0, 1) := by decide +kernel
theorem dX0_cellsOf_50 : decode cX0_cellsOf 50 = .ok (.getfield 9, 3) := by decide +kernel
theorem dX0_cellsOf_53 : decode cX0_cellsOf 53 = .ok (.iload_n 1, 1) := by decide +kernel
theorem dX0_cellsOf_54 : decode cX0_cellsOf 54 = .ok (.iaload, 1) := by decide +kernel
theorem dX0_cellsOf_55 : decode cX0_cellsOf 55 = .ok (.aload_n 0, 1) := by decide +kernel
theorem dX0_cellsOf_56 : decode cX0_cellsOf 56 = .ok (.getfield 18, 3) := by decide +kernel
theorem dX0_cellsOf_59 : decode cX0_cellsOf 59 = .ok (.iload_n 1, 1) := by decide +kernel
theorem dX0_cellsOf_60 : decode cX0_cellsOf 60 = .ok (.iaload, 1) := by decide +kernel
theorem dX0_cellsOf_61 : decode cX0_cellsOf 61 = .ok (.iadd, 1) := by decide +kernel
theorem dX0_cellsOf_62 : decode cX0_cellsOf 62 = .ok (.if_icmp .ge 27, 3) := by decide +kernel
theorem dX0_cellsOf_65 : decode cX0_cellsOf 65 = .ok (.iload 6, 2) := by decide +kernel
theorem dX0_cellsOf_67 : decode cX0_cellsOf 67 = .ok (.iload 5, 2) := by decide +kernel
theorem dX0_cellsOf_69 : decode cX0_cellsOf 69 = .ok (.invokestatic 32, 3) := by decide +kernel
theorem dX0_cellsOf_72 : decode cX0_cellsOf 72 = .ok (.iload_n 2, 1) := by decide +kernel
theorem dX0_cellsOf_73 : decode cX0_cellsOf 73 = .ok (.aload_n 3, 1) := by decide +kernel
theorem dX0_cellsOf_74 : decode cX0_cellsOf 74 = .ok (.invokestatic 36, 3) := by decide +kernel
theorem dX0_cellsOf_77 : decode cX0_cellsOf 77 = .ok (.ifCond .eq 6, 3) := by decide +kernel
theorem dX0_cellsOf_80 : decode cX0_cellsOf 80 = .ok (.iinc 4 1, 3) := by decide +kernel
theorem dX0_cellsOf_83 : decode cX0_cellsOf 83 = .ok (.iinc 6 1, 3) := by decide +kernel
theorem dX0_cellsOf_86 : decode cX0_cellsOf 86 = .ok (.goto (-39), 3) := by decide +kernel
theorem dX0_cellsOf_89 : decode cX0_cellsOf 89 = .ok (.iinc 5 1, 3) := by decide +kernel
theorem dX0_cellsOf_92 : decode cX0_cellsOf 92 = .ok (.goto (-71), 3) := by decide +kernel
theorem dX0_cellsOf_95 : decode cX0_cellsOf 95 = .ok (.iload 4, 2) := by decide +kernel
theorem dX0_cellsOf_97 : decode cX0_cellsOf 97 = .ok (.ireturn, 1) := by decide +kernel
set_option maxRecDepth 20000 in
theorem ggX0_isCounted_X2_isCell : GoodIn wsX0_isCounted wsX2_isCell := goodIn_r _ [3] (by decide +kernel) (by decide +kernel)
set_option maxRecDepth 20000 in
theorem gX0_isCounted_X2_isCell_n40 : GoodIn wsX0_isCounted (wsX2_isCell) := ggX0_isCounted_X2_isCell
set_option maxRecDepth 20000 in
theorem ggX0_isCounted_X1_lakeYearsLeft : GoodIn wsX0_isCounted wsX1_lakeYearsLeft := goodIn_r _ [7, 8, 9, 10, 11, 12, 13, 1, 2, 3, 14, 15, 16, 17, 18, 19, 20, 21, 22, 23, 24, 25, 26, 27] (by decide +kernel) (by decide +kernel)
set_option maxRecDepth 20000 in
theorem gX0_isCounted_X1_lakeYearsLeft_n48 : GoodIn wsX0_isCounted (wsX1_lakeYearsLeft) := ggX0_isCounted_X1_lakeYearsLeft
theorem dX0_isCounted_0 : decode cX0_isCounted 0 = .ok (.iload_n 0, 1) := by decide +kernel
theorem dX0_isCounted_1 : decode cX0_isCounted 1 = .ok (.invokestatic 40, 3) := by decide +kernel
theorem dX0_isCounted_4 : decode cX0_isCounted 4 = .ok (.ifCond .eq 7, 3) := by decide +kernel
theorem dX0_isCounted_7 : decode cX0_isCounted 7 = .ok (.aload_n 2, 1) := by decide +kernel
theorem dX0_isCounted_8 : decode cX0_isCounted 8 = .ok (.ifnonnull 5, 3) := by decide +kernel
theorem dX0_isCounted_11 : decode cX0_isCounted 11 = .ok (.iconst 0, 1) := by decide +kernel
theorem dX0_isCounted_12 : decode cX0_isCounted 12 = .ok (.ireturn, 1) := by decide +kernel
theorem dX0_isCounted_13 : decode cX0_isCounted 13 = .ok (.aload_n 2, 1) := by decide +kernel
theorem dX0_isCounted_14 : decode cX0_isCounted 14 = .ok (.getfield 43, 3) := by decide +kernel
theorem dX0_isCounted_17 : decode cX0_isCounted 17 = .ok (.iload_n 0, 1) := by decide +kernel
theorem dX0_isCounted_18 : decode cX0_isCounted 18 = .ok (.iaload, 1) := by decide +kernel
theorem dX0_isCounted_19 : decode cX0_isCounted 19 = .ok (.iconst (-1), 1) := by decide +kernel
theorem dX0_isCounted_20 : decode cX0_isCounted 20 = .ok (.if_icmp .eq 7, 3) := by decide +kernel
theorem dX0_isCounted_23 : decode cX0_isCounted 23 = .ok (.iconst 1, 1) := by decide +kernel
theorem dX0_isCounted_24 : decode cX0_isCounted 24 = .ok (.goto 4, 3) := by decide +kernel
theorem dX0_isCounted_27 : decode cX0_isCounted 27 = .ok (.iconst 0, 1) := by decide +kernel
theorem dX0_isCounted_28 : decode cX0_isCounted 28 = .ok (.istore_n 3, 1) := by decide +kernel
theorem dX0_isCounted_29 : decode cX0_isCounted 29 = .ok (.aload_n 2, 1) := by decide +kernel
theorem dX0_isCounted_30 : decode cX0_isCounted 30 = .ok (.iload_n 0, 1) := by decide +kernel
theorem dX0_isCounted_31 : decode cX0_isCounted 31 = .ok (.invokevirtual 48, 3) := by decide +kernel
theorem dX0_isCounted_34 : decode cX0_isCounted 34 = .ok (.ifCond .le 7, 3) := by decide +kernel
theorem dX0_isCounted_37 : decode cX0_isCounted 37 = .ok (.iconst 1, 1) := by decide +kernel
theorem dX0_isCounted_38 : decode cX0_isCounted 38 = .ok (.goto 4, 3) := by decide +kernel
theorem dX0_isCounted_41 : decode cX0_isCounted 41 = .ok (.iconst 0, 1) := by decide +kernel
theorem dX0_isCounted_42 : decode cX0_isCounted 42 = .ok (.istore 4, 2) := by decide +kernel
theorem dX0_isCounted_44 : decode cX0_isCounted 44 = .ok (.iload_n 1, 1) := by decide +kernel
theorem dX0_isCounted_45 : decode cX0_isCounted 45 = .ok (.tableswitch 53 0 3 #[31, 33, 48, 50], 31) := by decide +kernel
theorem dX0_isCounted_76 : decode cX0_isCounted 76 = .ok (.iconst 1, 1) := by decide +kernel
theorem dX0_isCounted_77 : decode cX0_isCounted 77 = .ok (.ireturn, 1) := by decide +kernel
theorem dX0_isCounted_78 : decode cX0_isCounted 78 = .ok (.iload_n 3, 1) := by decide +kernel
theorem dX0_isCounted_79 : decode cX0_isCounted 79 = .ok (.ifCond .ne 12, 3) := by decide +kernel
theorem dX0_isCounted_82 : decode cX0_isCounted 82 = .ok (.iload 4, 2) := by decide +kernel
theorem dX0_isCounted_84 : decode cX0_isCounted 84 = .ok (.ifCond .ne 7, 3) := by decide +kernel
theorem dX0_isCounted_87 : decode cX0_isCounted 87 = .ok (.iconst 1, 1) := by decide +kernel
theorem dX0_isCounted_88 : decode cX0_isCounted 88 = .ok (.goto 4, 3) := by decide +kernel
theorem dX0_isCounted_91 : decode cX0_isCounted 91 = .ok (.iconst 0, 1) := by decide +kernel
theorem dX0_isCounted_92 : decode cX0_isCounted 92 = .ok (.ireturn, 1) := by decide +kernel
theorem dX0_isCounted_93 : decode cX0_isCounted 93 = .ok (.iload_n 3, 1) := by decide +kernel
theorem dX0_isCounted_94 : decode cX0_isCounted 94 = .ok (.ireturn, 1) := by decide +kernel
theorem dX0_isCounted_95 : decode cX0_isCounted 95 = .ok (.iload 4, 2) := by decide +kernel
theorem dX0_isCounted_97 : decode cX0_isCounted 97 = .ok (.ireturn, 1) := by decide +kernel
theorem dX0_isCounted_98 : decode cX0_isCounted 98 = .ok (.aload_n 2, 1) := by decide +kernel
theorem dX0_isCounted_99 : decode cX0_isCounted 99 = .ok (.getfield 52, 3) := by decide +kernel
theorem dX0_isCounted_102 : decode cX0_isCounted 102 = .ok (.iload_n 0, 1) := by decide +kernel
theorem dX0_isCounted_103 : decode cX0_isCounted 103 = .ok (.baload, 1) := by decide +kernel
theorem dX0_isCounted_104 : decode cX0_isCounted 104 = .ok (.ireturn, 1) := by decide +kernel
set_option maxRecDepth 20000 in
theorem ggX1_init_X1_followCourse : GoodIn wsX1_init wsX1_followCourse := goodIn_r _ [22, 23, 24, 25, 26, 17, 12, 13, 14, 27, 28, 29, 30, 31, 32, 21, 33, 34, 35, 36, 37, 38, 39, 40, 41, 42, 43, 44, 45, 46, 15, 16, 47, 48, 49, 50, 51, 52, 53, 54, 55, 56, 57, 58, 59, 60] (by decide +kernel) (by decide +kernel)
set_option maxRecDepth 20000 in
theorem gX1_init_X1_followCourse : GoodIn wsX1_init (wsV RX1 50 RX1 yX1_followCourse wsX1_followCourse) := goodIn_app (goodIn_of _ (by decide +kernel)) ggX1_init_X1_followCourse
theorem dX1_init_0 : decode cX1_init 0 = .ok (.aload_n 0, 1) := by decide +kernel
theorem dX1_init_1 : decode cX1_init 1 = .ok (.invokespecial 3, 3) := by decide +kernel
theorem dX1_init_4 : decode cX1_init 4 = .ok (.aload_n 0, 1) := by decide +kernel
theorem dX1_init_5 : decode cX1_init 5 = .ok (.sipush 384, 3) := by decide +kernel
theorem dX1_init_8 : decode cX1_init 8 = .ok (.newarray .int, 2) := by decide +kernel
theorem dX1_init_10 : decode cX1_init 10 = .ok (.putfield 9, 3) := by decide +kernel
theorem dX1_init_13 : decode cX1_init 13 = .ok (.aload_n 0, 1) := by decide +kernel
theorem dX1_init_14 : decode cX1_init 14 = .ok (.sipush 384, 3) := by decide +kernel
theorem dX1_init_17 : decode cX1_init 17 = .ok (.newarray .int, 2) := by decide +kernel
theorem dX1_init_19 : decode cX1_init 19 = .ok (.putfield 15, 3) := by decide +kernel
theorem dX1_init_22 : decode cX1_init 22 = .ok (.aload_n 0, 1) := by decide +kernel
theorem dX1_init_23 : decode cX1_init 23 = .ok (.sipush 384, 3) := by decide +kernel
theorem dX1_init_26 : decode cX1_init 26 = .ok (.newarray .boolean, 2) := by decide +kernel
theorem dX1_init_28 : decode cX1_init 28 = .ok (.putfield 18, 3) := by decide +kernel
theorem dX1_init_31 : decode cX1_init 31 = .ok (.aload_n 0, 1) := by decide +kernel
theorem dX1_init_32 : decode cX1_init 32 = .ok (.sipush 384, 3) := by decide +kernel
theorem dX1_init_35 : decode cX1_init 35 = .ok (.newarray .int, 2) := by decide +kernel
theorem dX1_init_37 : decode cX1_init 37 = .ok (.putfield 22, 3) := by decide +kernel
theorem dX1_init_40 : decode cX1_init 40 = .ok (.aload_n 0, 1) := by decide +kernel
theorem dX1_init_41 : decode cX1_init 41 = .ok (.sipush 384, 3) := by decide +kernel
theorem dX1_init_44 : decode cX1_init 44 = .ok (.newarray .boolean, 2) := by decide +kernel
theorem dX1_init_46 : decode cX1_init 46 = .ok (.putfield 25, 3) := by decide +kernel
theorem dX1_init_49 : decode cX1_init 49 = .ok (.aload_n 0, 1) := by decide +kernel
theorem dX1_init_50 : decode cX1_init 50 = .ok (.bipush 12, 2) := by decide +kernel
theorem dX1_init_52 : decode cX1_init 52 = .ok (.newarray .int, 2) := by decide +kernel
theorem dX1_init_54 : decode cX1_init 54 = .ok (.putfield 28, 3) := by decide +kernel
theorem dX1_init_57 : decode cX1_init 57 = .ok (.aload_n 0, 1) := by decide +kernel
theorem dX1_init_58 : decode cX1_init 58 = .ok (.sipush 150, 3) := by decide +kernel
theorem dX1_init_61 : decode cX1_init 61 = .ok (.newarray .int, 2) := by decide +kernel
theorem dX1_init_63 : decode cX1_init 63 = .ok (.putfield 31, 3) := by decide +kernel
theorem dX1_init_66 : decode cX1_init 66 = .ok (.aload_n 0, 1) := by decide +kernel
theorem dX1_init_67 : decode cX1_init 67 = .ok (.sipush 384, 3) := by decide +kernel
theorem dX1_init_70 : decode cX1_init 70 = .ok (.newarray .int, 2) := by decide +kernel
theorem dX1_init_72 : decode cX1_init 72 = .ok (.putfield 34, 3) := by decide +kernel
theorem dX1_init_75 : decode cX1_init 75 = .ok (.aload_n 0, 1) := by decide +kernel
theorem dX1_init_76 : decode cX1_init 76 = .ok (.sipush 150, 3) := by decide +kernel
theorem dX1_init_79 : decode cX1_init 79 = .ok (.newarray .int, 2) := by decide +kernel
theorem dX1_init_81 : decode cX1_init 81 = .ok (.putfield 37, 3) := by decide +kernel
theorem dX1_init_84 : decode cX1_init 84 = .ok (.aload_n 0, 1) := by decide +kernel
theorem dX1_init_85 : decode cX1_init 85 = .ok (.sipush 150, 3) := by decide +kernel
theorem dX1_init_88 : decode cX1_init 88 = .ok (.newarray .int, 2) := by decide +kernel
theorem dX1_init_90 : decode cX1_init 90 = .ok (.putfield 40, 3) := by decide +kernel
theorem dX1_init_93 : decode cX1_init 93 = .ok (.aload_n 0, 1) := by decide +kernel
theorem dX1_init_94 : decode cX1_init 94 = .ok (.sipush 150, 3) := by decide +kernel
theorem dX1_init_97 : decode cX1_init 97 = .ok (.newarray .int, 2) := by decide +kernel
theorem dX1_init_99 : decode cX1_init 99 = .ok (.putfield 43, 3) := by decide +kernel
theorem dX1_init_102 : decode cX1_init 102 = .ok (.iconst 0, 1) := by decide +kernel
theorem dX1_init_103 : decode cX1_init 103 = .ok (.istore_n 1, 1) := by decide +kernel
theorem dX1_init_104 : decode cX1_init 104 = .ok (.iload_n 1, 1) := by decide +kernel
theorem dX1_init_105 : decode cX1_init 105 = .ok (.sipush 384, 3) := by decide +kernel
theorem dX1_init_108 : decode cX1_init 108 = .ok (.if_icmp .ge 23, 3) := by decide +kernel
theorem dX1_init_111 : decode cX1_init 111 = .ok (.aload_n 0, 1) := by decide +kernel
theorem dX1_init_112 : decode cX1_init 112 = .ok (.getfield 9, 3) := by decide +kernel
theorem dX1_init_115 : decode cX1_init 115 = .ok (.iload_n 1, 1) := by decide +kernel
theorem dX1_init_116 : decode cX1_init 116 = .ok (.iconst 3, 1) := by decide +kernel
theorem dX1_init_117 : decode cX1_init 117 = .ok (.iastore, 1) := by decide +kernel
theorem dX1_init_118 : decode cX1_init 118 = .ok (.aload_n 0, 1) := by decide +kernel
theorem dX1_init_119 : decode cX1_init 119 = .ok (.getfield 34, 3) := by decide +kernel
theorem dX1_init_122 : decode cX1_init 122 = .ok (.iload_n 1, 1) := by decide +kernel
theorem dX1_init_123 : decode cX1_init 123 = .ok (.iconst (-1), 1) := by decide +kernel
theorem dX1_init_124 : decode cX1_init 124 = .ok (.iastore, 1) := by decide +kernel
theorem dX1_init_125 : decode cX1_init 125 = .ok (.iinc 1 1, 3) := by decide +kernel
theorem dX1_init_128 : decode cX1_init 128 = .ok (.goto (-24), 3) := by decide +kernel
theorem dX1_init_131 : decode cX1_init 131 = .ok (.iconst 0, 1) := by decide +kernel
theorem dX1_init_132 : decode cX1_init 132 = .ok (.istore_n 1, 1) := by decide +kernel
theorem dX1_init_133 : decode cX1_init 133 = .ok (.iload_n 1, 1) := by decide +kernel
theorem dX1_init_134 : decode cX1_init 134 = .ok (.bipush 12, 2) := by decide +kernel
theorem dX1_init_136 : decode cX1_init 136 = .ok (.if_icmp .ge 16, 3) := by decide +kernel
theorem dX1_init_139 : decode cX1_init 139 = .ok (.aload_n 0, 1) := by decide +kernel
theorem dX1_init_140 : decode cX1_init 140 = .ok (.getfield 28, 3) := by decide +kernel
theorem dX1_init_143 : decode cX1_init 143 = .ok (.iload_n 1, 1) := by decide +kernel
theorem dX1_init_144 : decode cX1_init 144 = .ok (.iconst 3, 1) := by decide +kernel
theorem dX1_init_145 : decode cX1_init 145 = .ok (.iastore, 1) := by decide +kernel
theorem dX1_init_146 : decode cX1_init 146 = .ok (.iinc 1 1, 3) := by decide +kernel
theorem dX1_init_149 : decode cX1_init 149 = .ok (.goto (-16), 3) := by decide +kernel
theorem dX1_init_152 : decode cX1_init 152 = .ok (.iconst 0, 1) := by decide +kernel
theorem dX1_init_153 : decode cX1_init 153 = .ok (.istore_n 1, 1) := by decide +kernel
theorem dX1_init_154 : decode cX1_init 154 = .ok (.iload_n 1, 1) := by decide +kernel
theorem dX1_init_155 : decode cX1_init 155 = .ok (.bipush 24, 2) := by decide +kernel
theorem dX1_init_157 : decode cX1_init 157 = .ok (.if_icmp .ge 20, 3) := by decide +kernel
theorem dX1_init_160 : decode cX1_init 160 = .ok (.aload_n 0, 1) := by decide +kernel
theorem dX1_init_161 : decode cX1_init 161 = .ok (.getfield 31, 3) := by decide +kernel
theorem dX1_init_164 : decode cX1_init 164 = .ok (.iload_n 1, 1) := by decide +kernel
theorem dX1_init_165 : decode cX1_init 165 = .ok (.iload_n 1, 1) := by decide +kernel
theorem dX1_init_166 : decode cX1_init 166 = .ok (.sipush 192, 3) := by decide +kernel
theorem dX1_init_169 : decode cX1_init 169 = .ok (.iadd, 1) := by decide +kernel
theorem dX1_init_170 : decode cX1_init 170 = .ok (.iastore, 1) := by decide +kernel
theorem dX1_init_171 : decode cX1_init 171 = .ok (.iinc 1 1, 3) := by decide +kernel
theorem dX1_init_174 : decode cX1_init 174 = .ok (.goto (-20), 3) := by decide +kernel
theorem dX1_init_177 : decode cX1_init 177 = .ok (.aload_n 0, 1) := by decide +kernel
theorem dX1_init_178 : decode cX1_init 178 = .ok (.bipush 24, 2) := by decide +kernel
theorem dX1_init_180 : decode cX1_init 180 = .ok (.putfield 46, 3) := by decide +kernel
theorem dX1_init_183 : decode cX1_init 183 = .ok (.aload_n 0, 1) := by decide +kernel
theorem dX1_init_184 : decode cX1_init 184 = .ok (.iconst 0, 1) := by decide +kernel
theorem dX1_init_185 : decode cX1_init 185 = .ok (.invokevirtual 50, 3) := by decide +kernel
theorem dX1_init_188 : decode cX1_init 188 = .ok (.return_, 1) := by decide +kernel
theorem dX1_copyFrom_0 : decode cX1_copyFrom 0 = .ok (.aload_n 1, 1) := by decide +kernel
theorem dX1_copyFrom_1 : decode cX1_copyFrom 1 = .ok (.getfield 9, 3) := by decide +kernel
theorem dX1_copyFrom_4 : decode cX1_copyFrom 4 = .ok (.iconst 0, 1) := by decide +kernel
theorem dX1_copyFrom_5 : decode cX1_copyFrom 5 = .ok (.aload_n 0, 1) := by decide +kernel
theorem dX1_copyFrom_6 : decode cX1_copyFrom 6 = .ok (.getfield 9, 3) := by decide +kernel
theorem dX1_copyFrom_9 : decode cX1_copyFrom 9 = .ok (.iconst 0, 1) := by decide +kernel
theorem dX1_copyFrom_10 : decode cX1_copyFrom 10 = .ok (.sipush 384, 3) := by decide +kernel
theorem dX1_copyFrom_13 : decode cX1_copyFrom 13 = .ok (.invokestatic 54, 3) := by decide +kernel
theorem dX1_copyFrom_16 : decode cX1_copyFrom 16 = .ok (.aload_n 1, 1) := by decide +kernel
theorem dX1_copyFrom_17 : decode cX1_copyFrom 17 = .ok (.getfield 15, 3) := by decide +kernel
theorem dX1_copyFrom_20 : decode cX1_copyFrom 20 = .ok (.iconst 0, 1) := by decide +kernel
theorem dX1_copyFrom_21 : decode cX1_copyFrom 21 = .ok (.aload_n 0, 1) := by decide +kernel
theorem dX1_copyFrom_22 : decode cX1_copyFrom 22 = .ok (.getfield 15, 3) := by decide +kernel
theorem dX1_copyFrom_25 : decode cX1_copyFrom 25 = .ok (.iconst 0, 1) := by decide +kernel
theorem dX1_copyFrom_26 : decode cX1_copyFrom 26 = .ok (.sipush 384, 3) := by decide +kernel
theorem dX1_copyFrom_29 : decode cX1_copyFrom 29 = .ok (.invokestatic 54, 3) := by decide +kernel
theorem dX1_copyFrom_32 : decode cX1_copyFrom 32 = .ok (.aload_n 1, 1) := by decide +kernel
theorem dX1_copyFrom_33 : decode cX1_copyFrom 33 = .ok (.getfield 18, 3) := by decide +kernel
theorem dX1_copyFrom_36 : decode cX1_copyFrom 36 = .ok (.iconst 0, 1) := by decide +kernel
theorem dX1_copyFrom_37 : decode cX1_copyFrom 37 = .ok (.aload_n 0, 1) := by decide +kernel
theorem dX1_copyFrom_38 : decode cX1_copyFrom 38 = .ok (.getfield 18, 3) := by decide +kernel
theorem dX1_copyFrom_41 : decode cX1_copyFrom 41 = .ok (.iconst 0, 1) := by decide +kernel
theorem dX1_copyFrom_42 : decode cX1_copyFrom 42 = .ok (.sipush 384, 3) := by decide +kernel
theorem dX1_copyFrom_45 : decode cX1_copyFrom 45 = .ok (.invokestatic 54, 3) := by decide +kernel
theorem dX1_copyFrom_48 : decode cX1_copyFrom 48 = .ok (.aload_n 1, 1) := by decide +kernel
theorem dX1_copyFrom_49 : decode cX1_copyFrom 49 = .ok (.getfield 22, 3) := by decide +kernel
theorem dX1_copyFrom_52 : decode cX1_copyFrom 52 = .ok (.iconst 0, 1) := by decide +kernel
theorem dX1_copyFrom_53 : decode cX1_copyFrom 53 = .ok (.aload_n 0, 1) := by decide +kernel
theorem dX1_copyFrom_54 : decode cX1_copyFrom 54 = .ok (.getfield 22, 3) := by decide +kernel
theorem dX1_copyFrom_57 : decode cX1_copyFrom 57 = .ok (.iconst 0, 1) := by decide +kernel
theorem dX1_copyFrom_58 : decode cX1_copyFrom 58 = .ok (.sipush 384, 3) := by decide +kernel
theorem dX1_copyFrom_61 : decode cX1_copyFrom 61 = .ok (.invokestatic 54, 3) := by decide +kernel
theorem dX1_copyFrom_64 : decode cX1_copyFrom 64 = .ok (.aload_n 1, 1) := by decide +kernel
theorem dX1_copyFrom_65 : decode cX1_copyFrom 65 = .ok (.getfield 28, 3) := by decide +kernel
theorem dX1_copyFrom_68 : decode cX1_copyFrom 68 = .ok (.iconst 0, 1) := by decide +kernel
theorem dX1_copyFrom_69 : decode cX1_copyFrom 69 = .ok (.aload_n 0, 1) := by decide +kernel
theorem dX1_copyFrom_70 : decode cX1_copyFrom 70 = .ok (.getfield 28, 3) := by decide +kernel
theorem dX1_copyFrom_73 : decode cX1_copyFrom 73 = .ok (.iconst 0, 1) := by decide +kernel
theorem dX1_copyFrom_74 : decode cX1_copyFrom 74 = .ok (.bipush 12, 2) := by decide +kernel
theorem dX1_copyFrom_76 : decode cX1_copyFrom 76 = .ok (.invokestatic 54, 3) := by decide +kernel
theorem dX1_copyFrom_79 : decode cX1_copyFrom 79 = .ok (.aload_n 1, 1) := by decide +kernel
theorem dX1_copyFrom_80 : decode cX1_copyFrom 80 = .ok (.getfield 31, 3) := by decide +kernel
theorem dX1_copyFrom_83 : decode cX1_copyFrom 83 = .ok (.iconst 0, 1) := by decide +kernel
theorem dX1_copyFrom_84 : decode cX1_copyFrom 84 = .ok (.aload_n 0, 1) := by decide +kernel
theorem dX1_copyFrom_85 : decode cX1_copyFrom 85 = .ok (.getfield 31, 3) := by decide +kernel
theorem dX1_copyFrom_88 : decode cX1_copyFrom 88 = .ok (.iconst 0, 1) := by decide +kernel
theorem dX1_copyFrom_89 : decode cX1_copyFrom 89 = .ok (.sipush 150, 3) := by decide +kernel
theorem dX1_copyFrom_92 : decode cX1_copyFrom 92 = .ok (.invokestatic 54, 3) := by decide +kernel
theorem dX1_copyFrom_95 : decode cX1_copyFrom 95 = .ok (.aload_n 1, 1) := by decide +kernel
theorem dX1_copyFrom_96 : decode cX1_copyFrom 96 = .ok (.getfield 34, 3) := by decide +kernel
theorem dX1_copyFrom_99 : decode cX1_copyFrom 99 = .ok (.iconst 0, 1) := by decide +kernel
theorem dX1_copyFrom_100 : decode cX1_copyFrom 100 = .ok (.aload_n 0, 1) := by decide +kernel
theorem dX1_copyFrom_101 : decode cX1_copyFrom 101 = .ok (.getfield 34, 3) := by decide +kernel
theorem dX1_copyFrom_104 : decode cX1_copyFrom 104 = .ok (.iconst 0, 1) := by decide +kernel
theorem dX1_copyFrom_105 : decode cX1_copyFrom 105 = .ok (.sipush 384, 3) := by decide +kernel
theorem dX1_copyFrom_108 : decode cX1_copyFrom 108 = .ok (.invokestatic 54, 3) := by decide +kernel
theorem dX1_copyFrom_111 : decode cX1_copyFrom 111 = .ok (.aload_n 1, 1) := by decide +kernel
theorem dX1_copyFrom_112 : decode cX1_copyFrom 112 = .ok (.getfield 37, 3) := by decide +kernel
theorem dX1_copyFrom_115 : decode cX1_copyFrom 115 = .ok (.iconst 0, 1) := by decide +kernel
theorem dX1_copyFrom_116 : decode cX1_copyFrom 116 = .ok (.aload_n 0, 1) := by decide +kernel
theorem dX1_copyFrom_117 : decode cX1_copyFrom 117 = .ok (.getfield 37, 3) := by decide +kernel
theorem dX1_copyFrom_120 : decode cX1_copyFrom 120 = .ok (.iconst 0, 1) := by decide +kernel
theorem dX1_copyFrom_121 : decode cX1_copyFrom 121 = .ok (.sipush 150, 3) := by decide +kernel
theorem dX1_copyFrom_124 : decode cX1_copyFrom 124 = .ok (.invokestatic 54, 3) := by decide +kernel
theorem dX1_copyFrom_127 : decode cX1_copyFrom 127 = .ok (.aload_n 1, 1) := by decide +kernel
theorem dX1_copyFrom_128 : decode cX1_copyFrom 128 = .ok (.getfield 40, 3) := by decide +kernel
theorem dX1_copyFrom_131 : decode cX1_copyFrom 131 = .ok (.iconst 0, 1) := by decide +kernel
theorem dX1_copyFrom_132 : decode cX1_copyFrom 132 = .ok (.aload_n 0, 1) := by decide +kernel
theorem dX1_copyFrom_133 : decode cX1_copyFrom 133 = .ok (.getfield 40, 3) := by decide +kernel
theorem dX1_copyFrom_136 : decode cX1_copyFrom 136 = .ok (.iconst 0, 1) := by decide +kernel
theorem dX1_copyFrom_137 : decode cX1_copyFrom 137 = .ok (.sipush 150, 3) := by decide +kernel
theorem dX1_copyFrom_140 : decode cX1_copyFrom 140 = .ok (.invokestatic 54, 3) := by decide +kernel
theorem dX1_copyFrom_143 : decode cX1_copyFrom 143 = .ok (.aload_n 1, 1) := by decide +kernel
theorem dX1_copyFrom_144 : decode cX1_copyFrom 144 = .ok (.getfield 43, 3) := by decide +kernel
theorem dX1_copyFrom_147 : decode cX1_copyFrom 147 = .ok (.iconst 0, 1) := by decide +kernel
theorem dX1_copyFrom_148 : decode cX1_copyFrom 148 = .ok (.aload_n 0, 1) := by decide +kernel
theorem dX1_copyFrom_149 : decode cX1_copyFrom 149 = .ok (.getfield 43, 3) := by decide +kernel
theorem dX1_copyFrom_152 : decode cX1_copyFrom 152 = .ok (.iconst 0, 1) := by decide +kernel
theorem dX1_copyFrom_153 : decode cX1_copyFrom 153 = .ok (.sipush 150, 3) := by decide +kernel
theorem dX1_copyFrom_156 : decode cX1_copyFrom 156 = .ok (.invokestatic 54, 3) := by decide +kernel
theorem dX1_copyFrom_159 : decode cX1_copyFrom 159 = .ok (.aload_n 0, 1) := by decide +kernel
theorem dX1_copyFrom_160 : decode cX1_copyFrom 160 = .ok (.aload_n 1, 1) := by decide +kernel
theorem dX1_copyFrom_161 : decode cX1_copyFrom 161 = .ok (.getfield 46, 3) := by decide +kernel
theorem dX1_copyFrom_164 : decode cX1_copyFrom 164 = .ok (.putfield 46, 3) := by decide +kernel
theorem dX1_copyFrom_167 : decode cX1_copyFrom 167 = .ok (.aload_n 0, 1) := by decide +kernel
theorem dX1_copyFrom_168 : decode cX1_copyFrom 168 = .ok (.aload_n 1, 1) := by decide +kernel
theorem dX1_copyFrom_169 : decode cX1_copyFrom 169 = .ok (.getfield 60, 3) := by decide +kernel
theorem dX1_copyFrom_172 : decode cX1_copyFrom 172 = .ok (.putfield 60, 3) := by decide +kernel
theorem dX1_copyFrom_175 : decode cX1_copyFrom 175 = .ok (.aload_n 0, 1) := by decide +kernel
theorem dX1_copyFrom_176 : decode cX1_copyFrom 176 = .ok (.aload_n 1, 1) := by decide +kernel
theorem dX1_copyFrom_177 : decode cX1_copyFrom 177 = .ok (.getfield 63, 3) := by decide +kernel
theorem dX1_copyFrom_180 : decode cX1_copyFrom 180 = .ok (.putfield 63, 3) := by decide +kernel
theorem dX1_copyFrom_183 : decode cX1_copyFrom 183 = .ok (.iconst 0, 1) := by decide +kernel
theorem dX1_copyFrom_184 : decode cX1_copyFrom 184 = .ok (.istore_n 2, 1) := by decide +kernel
theorem dX1_copyFrom_185 : decode cX1_copyFrom 185 = .ok (.iload_n 2, 1) := by decide +kernel
theorem dX1_copyFrom_186 : decode cX1_copyFrom 186 = .ok (.sipush 384, 3) := by decide +kernel
theorem dX1_copyFrom_189 : decode cX1_copyFrom 189 = .ok (.if_icmp .ge 16, 3) := by decide +kernel
theorem dX1_copyFrom_192 : decode cX1_copyFrom 192 = .ok (.aload_n 0, 1) := by decide +kernel
theorem dX1_copyFrom_193 : decode cX1_copyFrom 193 = .ok (.getfield 25, 3) := by decide +kernel
theorem dX1_copyFrom_196 : decode cX1_copyFrom 196 = .ok (.iload_n 2, 1) := by decide +kernel
theorem dX1_copyFrom_197 : decode cX1_copyFrom 197 = .ok (.iconst 0, 1) := by decide +kernel
theorem dX1_copyFrom_198 : decode cX1_copyFrom 198 = .ok (.bastore, 1) := by decide +kernel
theorem dX1_copyFrom_199 : decode cX1_copyFrom 199 = .ok (.iinc 2 1, 3) := by decide +kernel
theorem dX1_copyFrom_202 : decode cX1_copyFrom 202 = .ok (.goto (-17), 3) := by decide +kernel
theorem dX1_copyFrom_205 : decode cX1_copyFrom 205 = .ok (.return_, 1) := by decide +kernel
theorem dX1_isInCourse_0 : decode cX1_isInCourse 0 = .ok (.iload_n 1, 1) := by decide +kernel
theorem dX1_isInCourse_1 : decode cX1_isInCourse 1 = .ok (.ifCond .lt 22, 3) := by decide +kernel
theorem dX1_isInCourse_4 : decode cX1_isInCourse 4 = .ok (.iload_n 1, 1) := by decide +kernel
theorem dX1_isInCourse_5 : decode cX1_isInCourse 5 = .ok (.aload_n 0, 1) := by decide +kernel
theorem dX1_isInCourse_6 : decode cX1_isInCourse 6 = .ok (.getfield 46, 3) := by decide +kernel
theorem dX1_isInCourse_9 : decode cX1_isInCourse 9 = .ok (.if_icmp .ge 14, 3) := by decide +kernel
theorem dX1_isInCourse_12 : decode cX1_isInCourse 12 = .ok (.iload_n 1, 1) := by decide +kernel
theorem dX1_isInCourse_13 : decode cX1_isInCourse 13 = .ok (.sipush 150, 3) := by decide +kernel
theorem dX1_isInCourse_16 : decode cX1_isInCourse 16 = .ok (.if_icmp .ge 7, 3) := by decide +kernel
theorem dX1_isInCourse_19 : decode cX1_isInCourse 19 = .ok (.iconst 1, 1) := by decide +kernel
theorem dX1_isInCourse_20 : decode cX1_isInCourse 20 = .ok (.goto 4, 3) := by decide +kernel
theorem dX1_isInCourse_23 : decode cX1_isInCourse 23 = .ok (.iconst 0, 1) := by decide +kernel
theorem dX1_isInCourse_24 : decode cX1_isInCourse 24 = .ok (.ireturn, 1) := by decide +kernel
set_option maxRecDepth 20000 in
theorem ggX1_cellAt_X1_isInCourse : GoodIn wsX1_cellAt wsX1_isInCourse := goodIn_r _ [6, 7, 8, 9, 10, 11, 12, 13, 14, 15, 16, 17, 18, 19, 20, 21] (by decide +kernel) (by decide +kernel)
set_option maxRecDepth 20000 in
theorem gX1_cellAt_X1_isInCourse : GoodIn wsX1_cellAt (wsV RX1 66 RX1 yX1_isInCourse wsX1_isInCourse) := goodIn_app (goodIn_of _ (by decide +kernel)) ggX1_cellAt_X1_isInCourse
theorem dX1_cellAt_0 : decode cX1_cellAt 0 = .ok (.aload_n 0, 1) := by decide +kernel
theorem dX1_cellAt_1 : decode cX1_cellAt 1 = .ok (.iload_n 1, 1) := by decide +kernel
theorem dX1_cellAt_2 : decode cX1_cellAt 2 = .ok (.invokevirtual 66, 3) := by decide +kernel
theorem dX1_cellAt_5 : decode cX1_cellAt 5 = .ok (.ifCond .eq 12, 3) := by decide +kernel
theorem dX1_cellAt_8 : decode cX1_cellAt 8 = .ok (.aload_n 0, 1) := by decide +kernel
theorem dX1_cellAt_9 : decode cX1_cellAt 9 = .ok (.getfield 31, 3) := by decide +kernel
theorem dX1_cellAt_12 : decode cX1_cellAt 12 = .ok (.iload_n 1, 1) := by decide +kernel
theorem dX1_cellAt_13 : decode cX1_cellAt 13 = .ok (.iaload, 1) := by decide +kernel
theorem dX1_cellAt_14 : decode cX1_cellAt 14 = .ok (.goto 4, 3) := by decide +kernel
theorem dX1_cellAt_17 : decode cX1_cellAt 17 = .ok (.iconst (-1), 1) := by decide +kernel
theorem dX1_cellAt_18 : decode cX1_cellAt 18 = .ok (.ireturn, 1) := by decide +kernel
set_option maxRecDepth 20000 in
theorem ggX1_placeOf_X2_isCell : GoodIn wsX1_placeOf wsX2_isCell := goodIn_r _ [4] (by decide +kernel) (by decide +kernel)
set_option maxRecDepth 20000 in
theorem gX1_placeOf_X2_isCell_n70 : GoodIn wsX1_placeOf (wsX2_isCell) := ggX1_placeOf_X2_isCell
theorem dX1_placeOf_0 : decode cX1_placeOf 0 = .ok (.iload_n 1, 1) := by decide +kernel
theorem dX1_placeOf_1 : decode cX1_placeOf 1 = .ok (.invokestatic 70, 3) := by decide +kernel
theorem dX1_placeOf_4 : decode cX1_placeOf 4 = .ok (.ifCond .eq 12, 3) := by decide +kernel
theorem dX1_placeOf_7 : decode cX1_placeOf 7 = .ok (.aload_n 0, 1) := by decide +kernel
theorem dX1_placeOf_8 : decode cX1_placeOf 8 = .ok (.getfield 34, 3) := by decide +kernel
theorem dX1_placeOf_11 : decode cX1_placeOf 11 = .ok (.iload_n 1, 1) := by decide +kernel
theorem dX1_placeOf_12 : decode cX1_placeOf 12 = .ok (.iaload, 1) := by decide +kernel
theorem dX1_placeOf_13 : decode cX1_placeOf 13 = .ok (.goto 4, 3) := by decide +kernel
theorem dX1_placeOf_16 : decode cX1_placeOf 16 = .ok (.iconst (-1), 1) := by decide +kernel
theorem dX1_placeOf_17 : decode cX1_placeOf 17 = .ok (.ireturn, 1) := by decide +kernel
set_option maxRecDepth 20000 in
theorem ggX1_isStraight_X1_isInCourse : GoodIn wsX1_isStraight wsX1_isInCourse := goodIn_r _ [7, 1, 8, 9, 10, 11, 12, 13, 14, 15, 16, 17, 18, 19, 20, 21] (by decide +kernel) (by decide +kernel)
set_option maxRecDepth 20000 in
theorem gX1_isStraight_X1_isInCourse : GoodIn wsX1_isStraight (wsV RX1 66 RX1 yX1_isInCourse wsX1_isInCourse) := goodIn_app (goodIn_of _ (by decide +kernel)) ggX1_isStraight_X1_isInCourse
theorem dX1_isStraight_0 : decode cX1_isStraight 0 = .ok (.iload_n 1, 1) := by decide +kernel
theorem dX1_isStraight_1 : decode cX1_isStraight 1 = .ok (.ifCond .le 42, 3) := by decide +kernel
theorem dX1_isStraight_4 : decode cX1_isStraight 4 = .ok (.iload_n 1, 1) := by decide +kernel
theorem dX1_isStraight_5 : decode cX1_isStraight 5 = .ok (.aload_n 0, 1) := by decide +kernel
theorem dX1_isStraight_6 : decode cX1_isStraight 6 = .ok (.getfield 46, 3) := by decide +kernel
theorem dX1_isStraight_9 : decode cX1_isStraight 9 = .ok (.iconst 1, 1) := by decide +kernel
theorem dX1_isStraight_10 : decode cX1_isStraight 10 = .ok (.isub, 1) := by decide +kernel
theorem dX1_isStraight_11 : decode cX1_isStraight 11 = .ok (.if_icmp .ge 32, 3) := by decide +kernel
theorem dX1_isStraight_14 : decode cX1_isStraight 14 = .ok (.aload_n 0, 1) := by decide +kernel
theorem dX1_isStraight_15 : decode cX1_isStraight 15 = .ok (.iload_n 1, 1) := by decide +kernel
theorem dX1_isStraight_16 : decode cX1_isStraight 16 = .ok (.invokevirtual 66, 3) := by decide +kernel
theorem dX1_isStraight_19 : decode cX1_isStraight 19 = .ok (.ifCond .eq 24, 3) := by decide +kernel
theorem dX1_isStraight_22 : decode cX1_isStraight 22 = .ok (.aload_n 0, 1) := by decide +kernel
theorem dX1_isStraight_23 : decode cX1_isStraight 23 = .ok (.getfield 37, 3) := by decide +kernel
theorem dX1_isStraight_26 : decode cX1_isStraight 26 = .ok (.iload_n 1, 1) := by decide +kernel
theorem dX1_isStraight_27 : decode cX1_isStraight 27 = .ok (.iconst 1, 1) := by decide +kernel
theorem dX1_isStraight_28 : decode cX1_isStraight 28 = .ok (.isub, 1) := by decide +kernel
theorem dX1_isStraight_29 : decode cX1_isStraight 29 = .ok (.iaload, 1) := by decide +kernel
theorem dX1_isStraight_30 : decode cX1_isStraight 30 = .ok (.aload_n 0, 1) := by decide +kernel
theorem dX1_isStraight_31 : decode cX1_isStraight 31 = .ok (.getfield 37, 3) := by decide +kernel
theorem dX1_isStraight_34 : decode cX1_isStraight 34 = .ok (.iload_n 1, 1) := by decide +kernel
theorem dX1_isStraight_35 : decode cX1_isStraight 35 = .ok (.iaload, 1) := by decide +kernel
theorem dX1_isStraight_36 : decode cX1_isStraight 36 = .ok (.if_icmp .ne 7, 3) := by decide +kernel
theorem dX1_isStraight_39 : decode cX1_isStraight 39 = .ok (.iconst 1, 1) := by decide +kernel
theorem dX1_isStraight_40 : decode cX1_isStraight 40 = .ok (.goto 4, 3) := by decide +kernel
theorem dX1_isStraight_43 : decode cX1_isStraight 43 = .ok (.iconst 0, 1) := by decide +kernel
theorem dX1_isStraight_44 : decode cX1_isStraight 44 = .ok (.ireturn, 1) := by decide +kernel
set_option maxRecDepth 20000 in
theorem ggX1_followCourse_X2_isCell : GoodIn wsX1_followCourse wsX2_isCell := goodIn_r _ [11] (by decide +kernel) (by decide +kernel)
set_option maxRecDepth 20000 in
theorem gX1_followCourse_X2_isCell_n70 : GoodIn wsX1_followCourse (wsX2_isCell) := ggX1_followCourse_X2_isCell
set_option maxRecDepth 20000 in
theorem ggX1_followCourse_X1_cellAt : GoodIn wsX1_followCourse wsX1_cellAt := goodIn_r _ [16, 6, 17, 18, 19, 15, 20, 5, 32, 33, 34, 35, 36, 37, 38, 39, 40, 41, 42, 43, 44, 45] (by decide +kernel) (by decide +kernel)
set_option maxRecDepth 20000 in
theorem gX1_followCourse_X1_cellAt : GoodIn wsX1_followCourse (wsV RX1 79 RX1 yX1_cellAt wsX1_cellAt) := goodIn_app (goodIn_of _ (by decide +kernel)) ggX1_followCourse_X1_cellAt
set_option maxRecDepth 20000 in
theorem ggX1_followCourse_X2_directionTo : GoodIn wsX1_followCourse wsX2_directionTo := goodIn_r _ [22, 23, 24, 10, 25] (by decide +kernel) (by decide +kernel)
set_option maxRecDepth 20000 in
theorem gX1_followCourse_X2_directionTo_n83 : GoodIn wsX1_followCourse (wsX2_directionTo) := ggX1_followCourse_X2_directionTo
set_option maxRecDepth 20000 in
theorem ggX1_followCourse_X1_throwCells : GoodIn wsX1_followCourse wsX1_throwCells := goodIn_r _ [29, 5, 30, 8, 31, 6, 24, 10, 25, 32, 33, 34, 35, 36, 37, 38, 39, 40, 41, 42, 43, 44, 45] (by decide +kernel) (by decide +kernel)
set_option maxRecDepth 20000 in
theorem gX1_followCourse_X1_throwCells : GoodIn wsX1_followCourse (wsV RX1 86 RX1 yX1_throwCells wsX1_throwCells) := goodIn_app (goodIn_of _ (by decide +kernel)) ggX1_followCourse_X1_throwCells
theorem dX1_followCourse_0 : decode cX1_followCourse 0 = .ok (.iconst 0, 1) := by decide +kernel
theorem dX1_followCourse_1 : decode cX1_followCourse 1 = .ok (.iload_n 1, 1) := by decide +kernel
theorem dX1_followCourse_2 : decode cX1_followCourse 2 = .ok (.invokestatic 73, 3) := by decide +kernel
theorem dX1_followCourse_5 : decode cX1_followCourse 5 = .ok (.istore_n 2, 1) := by decide +kernel
theorem dX1_followCourse_6 : decode cX1_followCourse 6 = .ok (.iload_n 2, 1) := by decide +kernel
theorem dX1_followCourse_7 : decode cX1_followCourse 7 = .ok (.aload_n 0, 1) := by decide +kernel
theorem dX1_followCourse_8 : decode cX1_followCourse 8 = .ok (.getfield 46, 3) := by decide +kernel
theorem dX1_followCourse_11 : decode cX1_followCourse 11 = .ok (.if_icmp .ge 30, 3) := by decide +kernel
theorem dX1_followCourse_14 : decode cX1_followCourse 14 = .ok (.aload_n 0, 1) := by decide +kernel
theorem dX1_followCourse_15 : decode cX1_followCourse 15 = .ok (.getfield 31, 3) := by decide +kernel
theorem dX1_followCourse_18 : decode cX1_followCourse 18 = .ok (.iload_n 2, 1) := by decide +kernel
theorem dX1_followCourse_19 : decode cX1_followCourse 19 = .ok (.iaload, 1) := by decide +kernel
theorem dX1_followCourse_20 : decode cX1_followCourse 20 = .ok (.istore_n 3, 1) := by decide +kernel
theorem dX1_followCourse_21 : decode cX1_followCourse 21 = .ok (.iload_n 3, 1) := by decide +kernel
theorem dX1_followCourse_22 : decode cX1_followCourse 22 = .ok (.invokestatic 70, 3) := by decide +kernel
theorem dX1_followCourse_25 : decode cX1_followCourse 25 = .ok (.ifCond .eq 10, 3) := by decide +kernel
theorem dX1_followCourse_28 : decode cX1_followCourse 28 = .ok (.aload_n 0, 1) := by decide +kernel
theorem dX1_followCourse_29 : decode cX1_followCourse 29 = .ok (.getfield 34, 3) := by decide +kernel
theorem dX1_followCourse_32 : decode cX1_followCourse 32 = .ok (.iload_n 3, 1) := by decide +kernel
theorem dX1_followCourse_33 : decode cX1_followCourse 33 = .ok (.iload_n 2, 1) := by decide +kernel
theorem dX1_followCourse_34 : decode cX1_followCourse 34 = .ok (.iastore, 1) := by decide +kernel
theorem dX1_followCourse_35 : decode cX1_followCourse 35 = .ok (.iinc 2 1, 3) := by decide +kernel
theorem dX1_followCourse_38 : decode cX1_followCourse 38 = .ok (.goto (-32), 3) := by decide +kernel
theorem dX1_followCourse_41 : decode cX1_followCourse 41 = .ok (.iconst 0, 1) := by decide +kernel
theorem dX1_followCourse_42 : decode cX1_followCourse 42 = .ok (.iload_n 1, 1) := by decide +kernel
theorem dX1_followCourse_43 : decode cX1_followCourse 43 = .ok (.iconst 1, 1) := by decide +kernel
theorem dX1_followCourse_44 : decode cX1_followCourse 44 = .ok (.isub, 1) := by decide +kernel
theorem dX1_followCourse_45 : decode cX1_followCourse 45 = .ok (.invokestatic 73, 3) := by decide +kernel
theorem dX1_followCourse_48 : decode cX1_followCourse 48 = .ok (.istore_n 2, 1) := by decide +kernel
theorem dX1_followCourse_49 : decode cX1_followCourse 49 = .ok (.iload_n 2, 1) := by decide +kernel
theorem dX1_followCourse_50 : decode cX1_followCourse 50 = .ok (.aload_n 0, 1) := by decide +kernel
theorem dX1_followCourse_51 : decode cX1_followCourse 51 = .ok (.getfield 46, 3) := by decide +kernel
theorem dX1_followCourse_54 : decode cX1_followCourse 54 = .ok (.if_icmp .ge 31, 3) := by decide +kernel
theorem dX1_followCourse_57 : decode cX1_followCourse 57 = .ok (.aload_n 0, 1) := by decide +kernel
theorem dX1_followCourse_58 : decode cX1_followCourse 58 = .ok (.getfield 37, 3) := by decide +kernel
theorem dX1_followCourse_61 : decode cX1_followCourse 61 = .ok (.iload_n 2, 1) := by decide +kernel
theorem dX1_followCourse_62 : decode cX1_followCourse 62 = .ok (.aload_n 0, 1) := by decide +kernel
theorem dX1_followCourse_63 : decode cX1_followCourse 63 = .ok (.getfield 31, 3) := by decide +kernel
theorem dX1_followCourse_66 : decode cX1_followCourse 66 = .ok (.iload_n 2, 1) := by decide +kernel
theorem dX1_followCourse_67 : decode cX1_followCourse 67 = .ok (.iaload, 1) := by decide +kernel
theorem dX1_followCourse_68 : decode cX1_followCourse 68 = .ok (.aload_n 0, 1) := by decide +kernel
theorem dX1_followCourse_69 : decode cX1_followCourse 69 = .ok (.iload_n 2, 1) := by decide +kernel
theorem dX1_followCourse_70 : decode cX1_followCourse 70 = .ok (.iconst 1, 1) := by decide +kernel
theorem dX1_followCourse_71 : decode cX1_followCourse 71 = .ok (.iadd, 1) := by decide +kernel
theorem dX1_followCourse_72 : decode cX1_followCourse 72 = .ok (.invokevirtual 79, 3) := by decide +kernel
theorem dX1_followCourse_75 : decode cX1_followCourse 75 = .ok (.invokestatic 83, 3) := by decide +kernel
theorem dX1_followCourse_78 : decode cX1_followCourse 78 = .ok (.iastore, 1) := by decide +kernel
theorem dX1_followCourse_79 : decode cX1_followCourse 79 = .ok (.iinc 2 1, 3) := by decide +kernel
theorem dX1_followCourse_82 : decode cX1_followCourse 82 = .ok (.goto (-33), 3) := by decide +kernel
theorem dX1_followCourse_85 : decode cX1_followCourse 85 = .ok (.aload_n 0, 1) := by decide +kernel
theorem dX1_followCourse_86 : decode cX1_followCourse 86 = .ok (.invokevirtual 86, 3) := by decide +kernel
theorem dX1_followCourse_89 : decode cX1_followCourse 89 = .ok (.return_, 1) := by decide +kernel
set_option maxRecDepth 20000 in
theorem ggX1_throwCells_X2_neighbour : GoodIn wsX1_throwCells wsX2_neighbour := goodIn_r _ [8] (by decide +kernel) (by decide +kernel)
set_option maxRecDepth 20000 in
theorem gX1_throwCells_X2_neighbour_n89 : GoodIn wsX1_throwCells (wsX2_neighbour) := ggX1_throwCells_X2_neighbour
theorem dX1_throwCells_0 : decode cX1_throwCells 0 = .ok (.iconst (-1), 1) := by decide +kernel
theorem dX1_throwCells_1 : decode cX1_throwCells 1 = .ok (.istore_n 1, 1) := by decide +kernel
theorem dX1_throwCells_2 : decode cX1_throwCells 2 = .ok (.iconst 0, 1) := by decide +kernel
theorem dX1_throwCells_3 : decode cX1_throwCells 3 = .ok (.istore_n 2, 1) := by decide +kernel
theorem dX1_throwCells_4 : decode cX1_throwCells 4 = .ok (.iload_n 2, 1) := by decide +kernel
theorem dX1_throwCells_5 : decode cX1_throwCells 5 = .ok (.aload_n 0, 1) := by decide +kernel
theorem dX1_throwCells_6 : decode cX1_throwCells 6 = .ok (.getfield 46, 3) := by decide +kernel
theorem dX1_throwCells_9 : decode cX1_throwCells 9 = .ok (.if_icmp .ge 88, 3) := by decide +kernel
theorem dX1_throwCells_12 : decode cX1_throwCells 12 = .ok (.aload_n 0, 1) := by decide +kernel
theorem dX1_throwCells_13 : decode cX1_throwCells 13 = .ok (.getfield 40, 3) := by decide +kernel
theorem dX1_throwCells_16 : decode cX1_throwCells 16 = .ok (.iload_n 2, 1) := by decide +kernel
theorem dX1_throwCells_17 : decode cX1_throwCells 17 = .ok (.iconst (-1), 1) := by decide +kernel
theorem dX1_throwCells_18 : decode cX1_throwCells 18 = .ok (.iastore, 1) := by decide +kernel
theorem dX1_throwCells_19 : decode cX1_throwCells 19 = .ok (.iload_n 2, 1) := by decide +kernel
theorem dX1_throwCells_20 : decode cX1_throwCells 20 = .ok (.ifCond .le 25, 3) := by decide +kernel
theorem dX1_throwCells_23 : decode cX1_throwCells 23 = .ok (.aload_n 0, 1) := by decide +kernel
theorem dX1_throwCells_24 : decode cX1_throwCells 24 = .ok (.getfield 37, 3) := by decide +kernel
theorem dX1_throwCells_27 : decode cX1_throwCells 27 = .ok (.iload_n 2, 1) := by decide +kernel
theorem dX1_throwCells_28 : decode cX1_throwCells 28 = .ok (.iaload, 1) := by decide +kernel
theorem dX1_throwCells_29 : decode cX1_throwCells 29 = .ok (.aload_n 0, 1) := by decide +kernel
theorem dX1_throwCells_30 : decode cX1_throwCells 30 = .ok (.getfield 37, 3) := by decide +kernel
theorem dX1_throwCells_33 : decode cX1_throwCells 33 = .ok (.iload_n 2, 1) := by decide +kernel
theorem dX1_throwCells_34 : decode cX1_throwCells 34 = .ok (.iconst 1, 1) := by decide +kernel
theorem dX1_throwCells_35 : decode cX1_throwCells 35 = .ok (.isub, 1) := by decide +kernel
theorem dX1_throwCells_36 : decode cX1_throwCells 36 = .ok (.iaload, 1) := by decide +kernel
theorem dX1_throwCells_37 : decode cX1_throwCells 37 = .ok (.if_icmp .eq 8, 3) := by decide +kernel
theorem dX1_throwCells_40 : decode cX1_throwCells 40 = .ok (.iload_n 2, 1) := by decide +kernel
theorem dX1_throwCells_41 : decode cX1_throwCells 41 = .ok (.istore_n 1, 1) := by decide +kernel
theorem dX1_throwCells_42 : decode cX1_throwCells 42 = .ok (.goto 28, 3) := by decide +kernel
theorem dX1_throwCells_45 : decode cX1_throwCells 45 = .ok (.iload_n 1, 1) := by decide +kernel
theorem dX1_throwCells_46 : decode cX1_throwCells 46 = .ok (.ifCond .le 24, 3) := by decide +kernel
theorem dX1_throwCells_49 : decode cX1_throwCells 49 = .ok (.iload_n 2, 1) := by decide +kernel
theorem dX1_throwCells_50 : decode cX1_throwCells 50 = .ok (.iload_n 1, 1) := by decide +kernel
theorem dX1_throwCells_51 : decode cX1_throwCells 51 = .ok (.isub, 1) := by decide +kernel
theorem dX1_throwCells_52 : decode cX1_throwCells 52 = .ok (.iconst 4, 1) := by decide +kernel
theorem dX1_throwCells_53 : decode cX1_throwCells 53 = .ok (.if_icmp .gt 17, 3) := by decide +kernel
theorem dX1_throwCells_56 : decode cX1_throwCells 56 = .ok (.aload_n 0, 1) := by decide +kernel
theorem dX1_throwCells_57 : decode cX1_throwCells 57 = .ok (.getfield 40, 3) := by decide +kernel
theorem dX1_throwCells_60 : decode cX1_throwCells 60 = .ok (.iload_n 2, 1) := by decide +kernel
theorem dX1_throwCells_61 : decode cX1_throwCells 61 = .ok (.aload_n 0, 1) := by decide +kernel
theorem dX1_throwCells_62 : decode cX1_throwCells 62 = .ok (.getfield 37, 3) := by decide +kernel
theorem dX1_throwCells_65 : decode cX1_throwCells 65 = .ok (.iload_n 1, 1) := by decide +kernel
theorem dX1_throwCells_66 : decode cX1_throwCells 66 = .ok (.iconst 1, 1) := by decide +kernel
theorem dX1_throwCells_67 : decode cX1_throwCells 67 = .ok (.isub, 1) := by decide +kernel
theorem dX1_throwCells_68 : decode cX1_throwCells 68 = .ok (.iaload, 1) := by decide +kernel
theorem dX1_throwCells_69 : decode cX1_throwCells 69 = .ok (.iastore, 1) := by decide +kernel
theorem dX1_throwCells_70 : decode cX1_throwCells 70 = .ok (.aload_n 0, 1) := by decide +kernel
theorem dX1_throwCells_71 : decode cX1_throwCells 71 = .ok (.getfield 43, 3) := by decide +kernel
theorem dX1_throwCells_74 : decode cX1_throwCells 74 = .ok (.iload_n 2, 1) := by decide +kernel
theorem dX1_throwCells_75 : decode cX1_throwCells 75 = .ok (.aload_n 0, 1) := by decide +kernel
theorem dX1_throwCells_76 : decode cX1_throwCells 76 = .ok (.getfield 31, 3) := by decide +kernel
theorem dX1_throwCells_79 : decode cX1_throwCells 79 = .ok (.iload_n 2, 1) := by decide +kernel
theorem dX1_throwCells_80 : decode cX1_throwCells 80 = .ok (.iaload, 1) := by decide +kernel
theorem dX1_throwCells_81 : decode cX1_throwCells 81 = .ok (.aload_n 0, 1) := by decide +kernel
theorem dX1_throwCells_82 : decode cX1_throwCells 82 = .ok (.getfield 40, 3) := by decide +kernel
theorem dX1_throwCells_85 : decode cX1_throwCells 85 = .ok (.iload_n 2, 1) := by decide +kernel
theorem dX1_throwCells_86 : decode cX1_throwCells 86 = .ok (.iaload, 1) := by decide +kernel
theorem dX1_throwCells_87 : decode cX1_throwCells 87 = .ok (.invokestatic 89, 3) := by decide +kernel
theorem dX1_throwCells_90 : decode cX1_throwCells 90 = .ok (.iastore, 1) := by decide +kernel
theorem dX1_throwCells_91 : decode cX1_throwCells 91 = .ok (.iinc 2 1, 3) := by decide +kernel
theorem dX1_throwCells_94 : decode cX1_throwCells 94 = .ok (.goto (-90), 3) := by decide +kernel
theorem dX1_throwCells_97 : decode cX1_throwCells 97 = .ok (.return_, 1) := by decide +kernel
set_option maxRecDepth 20000 in
theorem ggX1_canBulge_X1_isStraight : GoodIn wsX1_canBulge wsX1_isStraight := goodIn_r _ [7, 1, 2, 8, 9, 10, 6, 11, 28, 29, 30, 31, 32, 33, 34, 35, 36, 37, 38, 39, 40, 41] (by decide +kernel) (by decide +kernel)
set_option maxRecDepth 20000 in
theorem gX1_canBulge_X1_isStraight : GoodIn wsX1_canBulge (wsV RX1 92 RX1 yX1_isStraight wsX1_isStraight) := goodIn_app (goodIn_of _ (by decide +kernel)) ggX1_canBulge_X1_isStraight
set_option maxRecDepth 20000 in
theorem ggX1_canBulge_X1_cellAt : GoodIn wsX1_canBulge wsX1_cellAt := goodIn_r _ [15, 16, 8, 9, 10, 6, 11, 1, 28, 29, 30, 31, 32, 33, 34, 35, 36, 37, 38, 39, 40, 41] (by decide +kernel) (by decide +kernel)
set_option maxRecDepth 20000 in
theorem gX1_canBulge_X1_cellAt : GoodIn wsX1_canBulge (wsV RX1 79 RX1 yX1_cellAt wsX1_cellAt) := goodIn_app (goodIn_of _ (by decide +kernel)) ggX1_canBulge_X1_cellAt
set_option maxRecDepth 20000 in
theorem ggX1_canBulge_X2_neighbour : GoodIn wsX1_canBulge wsX2_neighbour := goodIn_r _ [19] (by decide +kernel) (by decide +kernel)
set_option maxRecDepth 20000 in
theorem gX1_canBulge_X2_neighbour_n89 : GoodIn wsX1_canBulge (wsX2_neighbour) := ggX1_canBulge_X2_neighbour
set_option maxRecDepth 20000 in
theorem ggX1_canBulge_X1_isOpen : GoodIn wsX1_canBulge wsX1_isOpen := goodIn_r _ [23, 24, 25, 26, 18, 27, 28, 29, 30, 31, 32, 33, 34, 35, 36, 37, 38, 39, 40, 41] (by decide +kernel) (by decide +kernel)
set_option maxRecDepth 20000 in
theorem gX1_canBulge_X1_isOpen : GoodIn wsX1_canBulge (wsV RX1 95 RX1 yX1_isOpen wsX1_isOpen) := goodIn_app (goodIn_of _ (by decide +kernel)) ggX1_canBulge_X1_isOpen
theorem dX1_canBulge_0 : decode cX1_canBulge 0 = .ok (.aload_n 0, 1) := by decide +kernel
theorem dX1_canBulge_1 : decode cX1_canBulge 1 = .ok (.iload_n 1, 1) := by decide +kernel
theorem dX1_canBulge_2 : decode cX1_canBulge 2 = .ok (.invokevirtual 92, 3) := by decide +kernel
theorem dX1_canBulge_5 : decode cX1_canBulge 5 = .ok (.ifCond .eq 24, 3) := by decide +kernel
theorem dX1_canBulge_8 : decode cX1_canBulge 8 = .ok (.aload_n 0, 1) := by decide +kernel
theorem dX1_canBulge_9 : decode cX1_canBulge 9 = .ok (.getfield 46, 3) := by decide +kernel
theorem dX1_canBulge_12 : decode cX1_canBulge 12 = .ok (.iconst 2, 1) := by decide +kernel
theorem dX1_canBulge_13 : decode cX1_canBulge 13 = .ok (.iadd, 1) := by decide +kernel
theorem dX1_canBulge_14 : decode cX1_canBulge 14 = .ok (.sipush 150, 3) := by decide +kernel
theorem dX1_canBulge_17 : decode cX1_canBulge 17 = .ok (.if_icmp .gt 12, 3) := by decide +kernel
theorem dX1_canBulge_20 : decode cX1_canBulge 20 = .ok (.iload_n 2, 1) := by decide +kernel
theorem dX1_canBulge_21 : decode cX1_canBulge 21 = .ok (.ifCond .lt 8, 3) := by decide +kernel
theorem dX1_canBulge_24 : decode cX1_canBulge 24 = .ok (.iload_n 2, 1) := by decide +kernel
theorem dX1_canBulge_25 : decode cX1_canBulge 25 = .ok (.iconst 4, 1) := by decide +kernel
theorem dX1_canBulge_26 : decode cX1_canBulge 26 = .ok (.if_icmp .lt 5, 3) := by decide +kernel
theorem dX1_canBulge_29 : decode cX1_canBulge 29 = .ok (.iconst 0, 1) := by decide +kernel
theorem dX1_canBulge_30 : decode cX1_canBulge 30 = .ok (.ireturn, 1) := by decide +kernel
theorem dX1_canBulge_31 : decode cX1_canBulge 31 = .ok (.iload_n 2, 1) := by decide +kernel
theorem dX1_canBulge_32 : decode cX1_canBulge 32 = .ok (.iconst 2, 1) := by decide +kernel
theorem dX1_canBulge_33 : decode cX1_canBulge 33 = .ok (.irem, 1) := by decide +kernel
theorem dX1_canBulge_34 : decode cX1_canBulge 34 = .ok (.aload_n 0, 1) := by decide +kernel
theorem dX1_canBulge_35 : decode cX1_canBulge 35 = .ok (.getfield 37, 3) := by decide +kernel
theorem dX1_canBulge_38 : decode cX1_canBulge 38 = .ok (.iload_n 1, 1) := by decide +kernel
theorem dX1_canBulge_39 : decode cX1_canBulge 39 = .ok (.iaload, 1) := by decide +kernel
theorem dX1_canBulge_40 : decode cX1_canBulge 40 = .ok (.iconst 2, 1) := by decide +kernel
theorem dX1_canBulge_41 : decode cX1_canBulge 41 = .ok (.irem, 1) := by decide +kernel
theorem dX1_canBulge_42 : decode cX1_canBulge 42 = .ok (.if_icmp .eq 7, 3) := by decide +kernel
theorem dX1_canBulge_45 : decode cX1_canBulge 45 = .ok (.iconst 1, 1) := by decide +kernel
theorem dX1_canBulge_46 : decode cX1_canBulge 46 = .ok (.goto 4, 3) := by decide +kernel
theorem dX1_canBulge_49 : decode cX1_canBulge 49 = .ok (.iconst 0, 1) := by decide +kernel
theorem dX1_canBulge_50 : decode cX1_canBulge 50 = .ok (.istore_n 3, 1) := by decide +kernel
theorem dX1_canBulge_51 : decode cX1_canBulge 51 = .ok (.iload_n 3, 1) := by decide +kernel
theorem dX1_canBulge_52 : decode cX1_canBulge 52 = .ok (.ifCond .eq 59, 3) := by decide +kernel
theorem dX1_canBulge_55 : decode cX1_canBulge 55 = .ok (.aload_n 0, 1) := by decide +kernel
theorem dX1_canBulge_56 : decode cX1_canBulge 56 = .ok (.aload_n 0, 1) := by decide +kernel
theorem dX1_canBulge_57 : decode cX1_canBulge 57 = .ok (.iload_n 1, 1) := by decide +kernel
theorem dX1_canBulge_58 : decode cX1_canBulge 58 = .ok (.iconst 1, 1) := by decide +kernel
theorem dX1_canBulge_59 : decode cX1_canBulge 59 = .ok (.isub, 1) := by decide +kernel
theorem dX1_canBulge_60 : decode cX1_canBulge 60 = .ok (.invokevirtual 79, 3) := by decide +kernel
theorem dX1_canBulge_63 : decode cX1_canBulge 63 = .ok (.iload_n 2, 1) := by decide +kernel
theorem dX1_canBulge_64 : decode cX1_canBulge 64 = .ok (.invokestatic 89, 3) := by decide +kernel
theorem dX1_canBulge_67 : decode cX1_canBulge 67 = .ok (.invokevirtual 95, 3) := by decide +kernel
theorem dX1_canBulge_70 : decode cX1_canBulge 70 = .ok (.ifCond .eq 41, 3) := by decide +kernel
theorem dX1_canBulge_73 : decode cX1_canBulge 73 = .ok (.aload_n 0, 1) := by decide +kernel
theorem dX1_canBulge_74 : decode cX1_canBulge 74 = .ok (.aload_n 0, 1) := by decide +kernel
theorem dX1_canBulge_75 : decode cX1_canBulge 75 = .ok (.iload_n 1, 1) := by decide +kernel
theorem dX1_canBulge_76 : decode cX1_canBulge 76 = .ok (.invokevirtual 79, 3) := by decide +kernel
theorem dX1_canBulge_79 : decode cX1_canBulge 79 = .ok (.iload_n 2, 1) := by decide +kernel
theorem dX1_canBulge_80 : decode cX1_canBulge 80 = .ok (.invokestatic 89, 3) := by decide +kernel
theorem dX1_canBulge_83 : decode cX1_canBulge 83 = .ok (.invokevirtual 95, 3) := by decide +kernel
theorem dX1_canBulge_86 : decode cX1_canBulge 86 = .ok (.ifCond .eq 25, 3) := by decide +kernel
theorem dX1_canBulge_89 : decode cX1_canBulge 89 = .ok (.aload_n 0, 1) := by decide +kernel
theorem dX1_canBulge_90 : decode cX1_canBulge 90 = .ok (.aload_n 0, 1) := by decide +kernel
theorem dX1_canBulge_91 : decode cX1_canBulge 91 = .ok (.iload_n 1, 1) := by decide +kernel
theorem dX1_canBulge_92 : decode cX1_canBulge 92 = .ok (.iconst 1, 1) := by decide +kernel
theorem dX1_canBulge_93 : decode cX1_canBulge 93 = .ok (.iadd, 1) := by decide +kernel
theorem dX1_canBulge_94 : decode cX1_canBulge 94 = .ok (.invokevirtual 79, 3) := by decide +kernel
theorem dX1_canBulge_97 : decode cX1_canBulge 97 = .ok (.iload_n 2, 1) := by decide +kernel
theorem dX1_canBulge_98 : decode cX1_canBulge 98 = .ok (.invokestatic 89, 3) := by decide +kernel
theorem dX1_canBulge_101 : decode cX1_canBulge 101 = .ok (.invokevirtual 95, 3) := by decide +kernel
theorem dX1_canBulge_104 : decode cX1_canBulge 104 = .ok (.ifCond .eq 7, 3) := by decide +kernel
theorem dX1_canBulge_107 : decode cX1_canBulge 107 = .ok (.iconst 1, 1) := by decide +kernel
theorem dX1_canBulge_108 : decode cX1_canBulge 108 = .ok (.goto 4, 3) := by decide +kernel
theorem dX1_canBulge_111 : decode cX1_canBulge 111 = .ok (.iconst 0, 1) := by decide +kernel
theorem dX1_canBulge_112 : decode cX1_canBulge 112 = .ok (.ireturn, 1) := by decide +kernel
set_option maxRecDepth 20000 in
theorem ggX1_isOpen_X2_isCell : GoodIn wsX1_isOpen wsX2_isCell := goodIn_r _ [5] (by decide +kernel) (by decide +kernel)
set_option maxRecDepth 20000 in
theorem gX1_isOpen_X2_isCell_n70 : GoodIn wsX1_isOpen (wsX2_isCell) := ggX1_isOpen_X2_isCell
theorem dX1_isOpen_0 : decode cX1_isOpen 0 = .ok (.iload_n 1, 1) := by decide +kernel
theorem dX1_isOpen_1 : decode cX1_isOpen 1 = .ok (.invokestatic 70, 3) := by decide +kernel
theorem dX1_isOpen_4 : decode cX1_isOpen 4 = .ok (.ifCond .eq 26, 3) := by decide +kernel
theorem dX1_isOpen_7 : decode cX1_isOpen 7 = .ok (.aload_n 0, 1) := by decide +kernel
theorem dX1_isOpen_8 : decode cX1_isOpen 8 = .ok (.getfield 34, 3) := by decide +kernel
theorem dX1_isOpen_11 : decode cX1_isOpen 11 = .ok (.iload_n 1, 1) := by decide +kernel
theorem dX1_isOpen_12 : decode cX1_isOpen 12 = .ok (.iaload, 1) := by decide +kernel
theorem dX1_isOpen_13 : decode cX1_isOpen 13 = .ok (.iconst (-1), 1) := by decide +kernel
theorem dX1_isOpen_14 : decode cX1_isOpen 14 = .ok (.if_icmp .ne 16, 3) := by decide +kernel
theorem dX1_isOpen_17 : decode cX1_isOpen 17 = .ok (.aload_n 0, 1) := by decide +kernel
theorem dX1_isOpen_18 : decode cX1_isOpen 18 = .ok (.getfield 18, 3) := by decide +kernel
theorem dX1_isOpen_21 : decode cX1_isOpen 21 = .ok (.iload_n 1, 1) := by decide +kernel
theorem dX1_isOpen_22 : decode cX1_isOpen 22 = .ok (.baload, 1) := by decide +kernel
theorem dX1_isOpen_23 : decode cX1_isOpen 23 = .ok (.ifCond .ne 7, 3) := by decide +kernel
theorem dX1_isOpen_26 : decode cX1_isOpen 26 = .ok (.iconst 1, 1) := by decide +kernel
theorem dX1_isOpen_27 : decode cX1_isOpen 27 = .ok (.goto 4, 3) := by decide +kernel
theorem dX1_isOpen_30 : decode cX1_isOpen 30 = .ok (.iconst 0, 1) := by decide +kernel
theorem dX1_isOpen_31 : decode cX1_isOpen 31 = .ok (.ireturn, 1) := by decide +kernel
set_option maxRecDepth 20000 in
theorem ggX1_bulge_X1_canBulge : GoodIn wsX1_bulge wsX1_canBulge := goodIn_r _ [12, 3, 13, 14, 15, 16, 11, 17, 18, 19, 20, 21, 22, 23, 24, 25, 2, 26, 27, 28, 29, 30, 31, 32, 1, 33, 34, 35, 60, 61, 62, 63, 64, 65, 66, 67, 68, 69, 70, 71, 72, 73] (by decide +kernel) (by decide +kernel)
set_option maxRecDepth 20000 in
theorem gX1_bulge_X1_canBulge : GoodIn wsX1_bulge (wsV RX1 98 RX1 yX1_canBulge wsX1_canBulge) := goodIn_app (goodIn_of _ (by decide +kernel)) ggX1_bulge_X1_canBulge
set_option maxRecDepth 20000 in
theorem ggX1_bulge_X1_cellAt : GoodIn wsX1_bulge wsX1_cellAt := goodIn_r _ [25, 2, 18, 19, 20, 11, 21, 3, 60, 61, 62, 63, 64, 65, 66, 67, 68, 69, 70, 71, 72, 73] (by decide +kernel) (by decide +kernel)
set_option maxRecDepth 20000 in
theorem gX1_bulge_X1_cellAt : GoodIn wsX1_bulge (wsV RX1 79 RX1 yX1_cellAt wsX1_cellAt) := goodIn_app (goodIn_of _ (by decide +kernel)) ggX1_bulge_X1_cellAt
set_option maxRecDepth 20000 in
theorem ggX1_bulge_X2_isCell : GoodIn wsX1_bulge wsX2_isCell := goodIn_r _ [35] (by decide +kernel) (by decide +kernel)
set_option maxRecDepth 20000 in
theorem gX1_bulge_X2_isCell_n70 : GoodIn wsX1_bulge (wsX2_isCell) := ggX1_bulge_X2_isCell
set_option maxRecDepth 20000 in
theorem ggX1_bulge_X2_neighbour : GoodIn wsX1_bulge wsX2_neighbour := goodIn_r _ [28] (by decide +kernel) (by decide +kernel)
set_option maxRecDepth 20000 in
theorem gX1_bulge_X2_neighbour_n89 : GoodIn wsX1_bulge (wsX2_neighbour) := ggX1_bulge_X2_neighbour
set_option maxRecDepth 20000 in
theorem ggX1_bulge_X1_takeIntoCourse : GoodIn wsX1_bulge wsX1_takeIntoCourse := goodIn_r _ [39, 2, 40, 41, 42, 18, 19, 20, 11, 21, 3, 34, 27, 35, 60, 61, 62, 63, 64, 65, 66, 67, 68, 69, 70, 71, 72, 73] (by decide +kernel) (by decide +kernel)
set_option maxRecDepth 20000 in
theorem gX1_bulge_X1_takeIntoCourse : GoodIn wsX1_bulge (wsV RX1 102 RX1 yX1_takeIntoCourse wsX1_takeIntoCourse) := goodIn_app (goodIn_of _ (by decide +kernel)) ggX1_bulge_X1_takeIntoCourse
set_option maxRecDepth 20000 in
theorem ggX1_bulge_X1_followCourse : GoodIn wsX1_bulge wsX1_followCourse := goodIn_r _ [46, 47, 48, 49, 50, 3, 2, 1, 13, 34, 27, 35, 22, 23, 24, 11, 25, 18, 19, 20, 21, 51, 52, 53, 26, 28, 54, 55, 56, 57, 58, 59, 60, 61, 62, 63, 64, 65, 66, 67, 68, 69, 70, 71, 72, 73] (by decide +kernel) (by decide +kernel)
set_option maxRecDepth 20000 in
theorem gX1_bulge_X1_followCourse : GoodIn wsX1_bulge (wsV RX1 50 RX1 yX1_followCourse wsX1_followCourse) := goodIn_app (goodIn_of _ (by decide +kernel)) ggX1_bulge_X1_followCourse
theorem dX1_bulge_0 : decode cX1_bulge 0 = .ok (.aload_n 0, 1) := by decide +kernel
theorem dX1_bulge_1 : decode cX1_bulge 1 = .ok (.iload_n 1, 1) := by decide +kernel
theorem dX1_bulge_2 : decode cX1_bulge 2 = .ok (.iload_n 2, 1) := by decide +kernel
theorem dX1_bulge_3 : decode cX1_bulge 3 = .ok (.invokevirtual 98, 3) := by decide +kernel
theorem dX1_bulge_6 : decode cX1_bulge 6 = .ok (.ifCond .ne 4, 3) := by decide +kernel
theorem dX1_bulge_9 : decode cX1_bulge 9 = .ok (.return_, 1) := by decide +kernel
theorem dX1_bulge_10 : decode cX1_bulge 10 = .ok (.aload_n 0, 1) := by decide +kernel
theorem dX1_bulge_11 : decode cX1_bulge 11 = .ok (.iload_n 1, 1) := by decide +kernel
theorem dX1_bulge_12 : decode cX1_bulge 12 = .ok (.invokevirtual 79, 3) := by decide +kernel
theorem dX1_bulge_15 : decode cX1_bulge 15 = .ok (.istore_n 3, 1) := by decide +kernel
theorem dX1_bulge_16 : decode cX1_bulge 16 = .ok (.iload_n 3, 1) := by decide +kernel
theorem dX1_bulge_17 : decode cX1_bulge 17 = .ok (.invokestatic 70, 3) := by decide +kernel
theorem dX1_bulge_20 : decode cX1_bulge 20 = .ok (.ifCond .eq 10, 3) := by decide +kernel
theorem dX1_bulge_23 : decode cX1_bulge 23 = .ok (.aload_n 0, 1) := by decide +kernel
theorem dX1_bulge_24 : decode cX1_bulge 24 = .ok (.getfield 34, 3) := by decide +kernel
theorem dX1_bulge_27 : decode cX1_bulge 27 = .ok (.iload_n 3, 1) := by decide +kernel
theorem dX1_bulge_28 : decode cX1_bulge 28 = .ok (.iconst (-1), 1) := by decide +kernel
theorem dX1_bulge_29 : decode cX1_bulge 29 = .ok (.iastore, 1) := by decide +kernel
theorem dX1_bulge_30 : decode cX1_bulge 30 = .ok (.aload_n 0, 1) := by decide +kernel
theorem dX1_bulge_31 : decode cX1_bulge 31 = .ok (.iload_n 1, 1) := by decide +kernel
theorem dX1_bulge_32 : decode cX1_bulge 32 = .ok (.iconst 1, 1) := by decide +kernel
theorem dX1_bulge_33 : decode cX1_bulge 33 = .ok (.isub, 1) := by decide +kernel
theorem dX1_bulge_34 : decode cX1_bulge 34 = .ok (.invokevirtual 79, 3) := by decide +kernel
theorem dX1_bulge_37 : decode cX1_bulge 37 = .ok (.iload_n 2, 1) := by decide +kernel
theorem dX1_bulge_38 : decode cX1_bulge 38 = .ok (.invokestatic 89, 3) := by decide +kernel
theorem dX1_bulge_41 : decode cX1_bulge 41 = .ok (.istore 4, 2) := by decide +kernel
theorem dX1_bulge_43 : decode cX1_bulge 43 = .ok (.iload_n 3, 1) := by decide +kernel
theorem dX1_bulge_44 : decode cX1_bulge 44 = .ok (.iload_n 2, 1) := by decide +kernel
theorem dX1_bulge_45 : decode cX1_bulge 45 = .ok (.invokestatic 89, 3) := by decide +kernel
theorem dX1_bulge_48 : decode cX1_bulge 48 = .ok (.istore 5, 2) := by decide +kernel
theorem dX1_bulge_50 : decode cX1_bulge 50 = .ok (.aload_n 0, 1) := by decide +kernel
theorem dX1_bulge_51 : decode cX1_bulge 51 = .ok (.iload_n 1, 1) := by decide +kernel
theorem dX1_bulge_52 : decode cX1_bulge 52 = .ok (.iconst 1, 1) := by decide +kernel
theorem dX1_bulge_53 : decode cX1_bulge 53 = .ok (.iadd, 1) := by decide +kernel
theorem dX1_bulge_54 : decode cX1_bulge 54 = .ok (.invokevirtual 79, 3) := by decide +kernel
theorem dX1_bulge_57 : decode cX1_bulge 57 = .ok (.iload_n 2, 1) := by decide +kernel
theorem dX1_bulge_58 : decode cX1_bulge 58 = .ok (.invokestatic 89, 3) := by decide +kernel
theorem dX1_bulge_61 : decode cX1_bulge 61 = .ok (.istore 6, 2) := by decide +kernel
theorem dX1_bulge_63 : decode cX1_bulge 63 = .ok (.aload_n 0, 1) := by decide +kernel
theorem dX1_bulge_64 : decode cX1_bulge 64 = .ok (.getfield 31, 3) := by decide +kernel
theorem dX1_bulge_67 : decode cX1_bulge 67 = .ok (.iload_n 1, 1) := by decide +kernel
theorem dX1_bulge_68 : decode cX1_bulge 68 = .ok (.iconst 1, 1) := by decide +kernel
theorem dX1_bulge_69 : decode cX1_bulge 69 = .ok (.iadd, 1) := by decide +kernel
theorem dX1_bulge_70 : decode cX1_bulge 70 = .ok (.aload_n 0, 1) := by decide +kernel
theorem dX1_bulge_71 : decode cX1_bulge 71 = .ok (.getfield 31, 3) := by decide +kernel
theorem dX1_bulge_74 : decode cX1_bulge 74 = .ok (.iload_n 1, 1) := by decide +kernel
theorem dX1_bulge_75 : decode cX1_bulge 75 = .ok (.iconst 3, 1) := by decide +kernel
theorem dX1_bulge_76 : decode cX1_bulge 76 = .ok (.iadd, 1) := by decide +kernel
theorem dX1_bulge_77 : decode cX1_bulge 77 = .ok (.aload_n 0, 1) := by decide +kernel
theorem dX1_bulge_78 : decode cX1_bulge 78 = .ok (.getfield 46, 3) := by decide +kernel
theorem dX1_bulge_81 : decode cX1_bulge 81 = .ok (.iload_n 1, 1) := by decide +kernel
theorem dX1_bulge_82 : decode cX1_bulge 82 = .ok (.isub, 1) := by decide +kernel
theorem dX1_bulge_83 : decode cX1_bulge 83 = .ok (.iconst 1, 1) := by decide +kernel
theorem dX1_bulge_84 : decode cX1_bulge 84 = .ok (.isub, 1) := by decide +kernel
theorem dX1_bulge_85 : decode cX1_bulge 85 = .ok (.invokestatic 54, 3) := by decide +kernel
theorem dX1_bulge_88 : decode cX1_bulge 88 = .ok (.aload_n 0, 1) := by decide +kernel
theorem dX1_bulge_89 : decode cX1_bulge 89 = .ok (.dup, 1) := by decide +kernel
theorem dX1_bulge_90 : decode cX1_bulge 90 = .ok (.getfield 46, 3) := by decide +kernel
theorem dX1_bulge_93 : decode cX1_bulge 93 = .ok (.iconst 2, 1) := by decide +kernel
theorem dX1_bulge_94 : decode cX1_bulge 94 = .ok (.iadd, 1) := by decide +kernel
theorem dX1_bulge_95 : decode cX1_bulge 95 = .ok (.putfield 46, 3) := by decide +kernel
theorem dX1_bulge_98 : decode cX1_bulge 98 = .ok (.aload_n 0, 1) := by decide +kernel
theorem dX1_bulge_99 : decode cX1_bulge 99 = .ok (.iload_n 1, 1) := by decide +kernel
theorem dX1_bulge_100 : decode cX1_bulge 100 = .ok (.iload 4, 2) := by decide +kernel
theorem dX1_bulge_102 : decode cX1_bulge 102 = .ok (.invokevirtual 102, 3) := by decide +kernel
theorem dX1_bulge_105 : decode cX1_bulge 105 = .ok (.aload_n 0, 1) := by decide +kernel
theorem dX1_bulge_106 : decode cX1_bulge 106 = .ok (.iload_n 1, 1) := by decide +kernel
theorem dX1_bulge_107 : decode cX1_bulge 107 = .ok (.iconst 1, 1) := by decide +kernel
theorem dX1_bulge_108 : decode cX1_bulge 108 = .ok (.iadd, 1) := by decide +kernel
theorem dX1_bulge_109 : decode cX1_bulge 109 = .ok (.iload 5, 2) := by decide +kernel
theorem dX1_bulge_111 : decode cX1_bulge 111 = .ok (.invokevirtual 102, 3) := by decide +kernel
theorem dX1_bulge_114 : decode cX1_bulge 114 = .ok (.aload_n 0, 1) := by decide +kernel
theorem dX1_bulge_115 : decode cX1_bulge 115 = .ok (.iload_n 1, 1) := by decide +kernel
theorem dX1_bulge_116 : decode cX1_bulge 116 = .ok (.iconst 2, 1) := by decide +kernel
theorem dX1_bulge_117 : decode cX1_bulge 117 = .ok (.iadd, 1) := by decide +kernel
theorem dX1_bulge_118 : decode cX1_bulge 118 = .ok (.iload 6, 2) := by decide +kernel
theorem dX1_bulge_120 : decode cX1_bulge 120 = .ok (.invokevirtual 102, 3) := by decide +kernel
theorem dX1_bulge_123 : decode cX1_bulge 123 = .ok (.aload_n 0, 1) := by decide +kernel
theorem dX1_bulge_124 : decode cX1_bulge 124 = .ok (.iload_n 1, 1) := by decide +kernel
theorem dX1_bulge_125 : decode cX1_bulge 125 = .ok (.invokevirtual 50, 3) := by decide +kernel
theorem dX1_bulge_128 : decode cX1_bulge 128 = .ok (.return_, 1) := by decide +kernel
set_option maxRecDepth 20000 in
theorem ggX1_takeIntoCourse_X1_isInCourse : GoodIn wsX1_takeIntoCourse wsX1_isInCourse := goodIn_r _ [9, 10, 14, 15, 16, 17, 18, 19, 20, 21, 22, 23, 24, 25, 26, 27] (by decide +kernel) (by decide +kernel)
set_option maxRecDepth 20000 in
theorem gX1_takeIntoCourse_X1_isInCourse : GoodIn wsX1_takeIntoCourse (wsV RX1 66 RX1 yX1_isInCourse wsX1_isInCourse) := goodIn_app (goodIn_of _ (by decide +kernel)) ggX1_takeIntoCourse_X1_isInCourse
set_option maxRecDepth 20000 in
theorem ggX1_takeIntoCourse_X2_isCell : GoodIn wsX1_takeIntoCourse wsX2_isCell := goodIn_r _ [13] (by decide +kernel) (by decide +kernel)
set_option maxRecDepth 20000 in
theorem gX1_takeIntoCourse_X2_isCell_n70 : GoodIn wsX1_takeIntoCourse (wsX2_isCell) := ggX1_takeIntoCourse_X2_isCell
theorem dX1_takeIntoCourse_0 : decode cX1_takeIntoCourse 0 = .ok (.aload_n 0, 1) := by decide +kernel
theorem dX1_takeIntoCourse_1 : decode cX1_takeIntoCourse 1 = .ok (.iload_n 1, 1) := by decide +kernel
theorem dX1_takeIntoCourse_2 : decode cX1_takeIntoCourse 2 = .ok (.invokevirtual 66, 3) := by decide +kernel
theorem dX1_takeIntoCourse_5 : decode cX1_takeIntoCourse 5 = .ok (.ifCond .eq 38, 3) := by decide +kernel
theorem dX1_takeIntoCourse_8 : decode cX1_takeIntoCourse 8 = .ok (.iload_n 2, 1) := by decide +kernel
theorem dX1_takeIntoCourse_9 : decode cX1_takeIntoCourse 9 = .ok (.invokestatic 70, 3) := by decide +kernel
theorem dX1_takeIntoCourse_12 : decode cX1_takeIntoCourse 12 = .ok (.ifCond .eq 31, 3) := by decide +kernel
theorem dX1_takeIntoCourse_15 : decode cX1_takeIntoCourse 15 = .ok (.aload_n 0, 1) := by decide +kernel
theorem dX1_takeIntoCourse_16 : decode cX1_takeIntoCourse 16 = .ok (.getfield 31, 3) := by decide +kernel
theorem dX1_takeIntoCourse_19 : decode cX1_takeIntoCourse 19 = .ok (.iload_n 1, 1) := by decide +kernel
theorem dX1_takeIntoCourse_20 : decode cX1_takeIntoCourse 20 = .ok (.iload_n 2, 1) := by decide +kernel
theorem dX1_takeIntoCourse_21 : decode cX1_takeIntoCourse 21 = .ok (.iastore, 1) := by decide +kernel
theorem dX1_takeIntoCourse_22 : decode cX1_takeIntoCourse 22 = .ok (.aload_n 0, 1) := by decide +kernel
theorem dX1_takeIntoCourse_23 : decode cX1_takeIntoCourse 23 = .ok (.getfield 15, 3) := by decide +kernel
theorem dX1_takeIntoCourse_26 : decode cX1_takeIntoCourse 26 = .ok (.iload_n 2, 1) := by decide +kernel
theorem dX1_takeIntoCourse_27 : decode cX1_takeIntoCourse 27 = .ok (.iconst 0, 1) := by decide +kernel
theorem dX1_takeIntoCourse_28 : decode cX1_takeIntoCourse 28 = .ok (.iastore, 1) := by decide +kernel
theorem dX1_takeIntoCourse_29 : decode cX1_takeIntoCourse 29 = .ok (.aload_n 0, 1) := by decide +kernel
theorem dX1_takeIntoCourse_30 : decode cX1_takeIntoCourse 30 = .ok (.getfield 22, 3) := by decide +kernel
theorem dX1_takeIntoCourse_33 : decode cX1_takeIntoCourse 33 = .ok (.iload_n 2, 1) := by decide +kernel
theorem dX1_takeIntoCourse_34 : decode cX1_takeIntoCourse 34 = .ok (.iconst 0, 1) := by decide +kernel
theorem dX1_takeIntoCourse_35 : decode cX1_takeIntoCourse 35 = .ok (.iastore, 1) := by decide +kernel
theorem dX1_takeIntoCourse_36 : decode cX1_takeIntoCourse 36 = .ok (.aload_n 0, 1) := by decide +kernel
theorem dX1_takeIntoCourse_37 : decode cX1_takeIntoCourse 37 = .ok (.getfield 25, 3) := by decide +kernel
theorem dX1_takeIntoCourse_40 : decode cX1_takeIntoCourse 40 = .ok (.iload_n 2, 1) := by decide +kernel
theorem dX1_takeIntoCourse_41 : decode cX1_takeIntoCourse 41 = .ok (.iconst 1, 1) := by decide +kernel
theorem dX1_takeIntoCourse_42 : decode cX1_takeIntoCourse 42 = .ok (.bastore, 1) := by decide +kernel
theorem dX1_takeIntoCourse_43 : decode cX1_takeIntoCourse 43 = .ok (.return_, 1) := by decide +kernel
set_option maxRecDepth 20000 in
theorem ggX1_isNeck_X1_isInCourse : GoodIn wsX1_isNeck wsX1_isInCourse := goodIn_r _ [6, 7, 14, 15, 16, 17, 18, 19, 20, 21, 22, 23, 24, 25, 26, 27] (by decide +kernel) (by decide +kernel)
set_option maxRecDepth 20000 in
theorem gX1_isNeck_X1_isInCourse : GoodIn wsX1_isNeck (wsV RX1 66 RX1 yX1_isInCourse wsX1_isInCourse) := goodIn_app (goodIn_of _ (by decide +kernel)) ggX1_isNeck_X1_isInCourse
set_option maxRecDepth 20000 in
theorem ggX1_isNeck_X2_directionTo : GoodIn wsX1_isNeck wsX2_directionTo := goodIn_r _ [10, 11, 12, 9, 13] (by decide +kernel) (by decide +kernel)
set_option maxRecDepth 20000 in
theorem gX1_isNeck_X2_directionTo_n83 : GoodIn wsX1_isNeck (wsX2_directionTo) := ggX1_isNeck_X2_directionTo
theorem dX1_isNeck_0 : decode cX1_isNeck 0 = .ok (.aload_n 0, 1) := by decide +kernel
theorem dX1_isNeck_1 : decode cX1_isNeck 1 = .ok (.iload_n 1, 1) := by decide +kernel
theorem dX1_isNeck_2 : decode cX1_isNeck 2 = .ok (.invokevirtual 66, 3) := by decide +kernel
theorem dX1_isNeck_5 : decode cX1_isNeck 5 = .ok (.ifCond .eq 41, 3) := by decide +kernel
theorem dX1_isNeck_8 : decode cX1_isNeck 8 = .ok (.aload_n 0, 1) := by decide +kernel
theorem dX1_isNeck_9 : decode cX1_isNeck 9 = .ok (.iload_n 2, 1) := by decide +kernel
theorem dX1_isNeck_10 : decode cX1_isNeck 10 = .ok (.invokevirtual 66, 3) := by decide +kernel
theorem dX1_isNeck_13 : decode cX1_isNeck 13 = .ok (.ifCond .eq 33, 3) := by decide +kernel
theorem dX1_isNeck_16 : decode cX1_isNeck 16 = .ok (.iload_n 2, 1) := by decide +kernel
theorem dX1_isNeck_17 : decode cX1_isNeck 17 = .ok (.iload_n 1, 1) := by decide +kernel
theorem dX1_isNeck_18 : decode cX1_isNeck 18 = .ok (.isub, 1) := by decide +kernel
theorem dX1_isNeck_19 : decode cX1_isNeck 19 = .ok (.iconst 3, 1) := by decide +kernel
theorem dX1_isNeck_20 : decode cX1_isNeck 20 = .ok (.if_icmp .lt 26, 3) := by decide +kernel
theorem dX1_isNeck_23 : decode cX1_isNeck 23 = .ok (.aload_n 0, 1) := by decide +kernel
theorem dX1_isNeck_24 : decode cX1_isNeck 24 = .ok (.getfield 31, 3) := by decide +kernel
theorem dX1_isNeck_27 : decode cX1_isNeck 27 = .ok (.iload_n 1, 1) := by decide +kernel
theorem dX1_isNeck_28 : decode cX1_isNeck 28 = .ok (.iaload, 1) := by decide +kernel
theorem dX1_isNeck_29 : decode cX1_isNeck 29 = .ok (.aload_n 0, 1) := by decide +kernel
theorem dX1_isNeck_30 : decode cX1_isNeck 30 = .ok (.getfield 31, 3) := by decide +kernel
theorem dX1_isNeck_33 : decode cX1_isNeck 33 = .ok (.iload_n 2, 1) := by decide +kernel
theorem dX1_isNeck_34 : decode cX1_isNeck 34 = .ok (.iaload, 1) := by decide +kernel
theorem dX1_isNeck_35 : decode cX1_isNeck 35 = .ok (.invokestatic 83, 3) := by decide +kernel
theorem dX1_isNeck_38 : decode cX1_isNeck 38 = .ok (.iconst (-1), 1) := by decide +kernel
theorem dX1_isNeck_39 : decode cX1_isNeck 39 = .ok (.if_icmp .eq 7, 3) := by decide +kernel
theorem dX1_isNeck_42 : decode cX1_isNeck 42 = .ok (.iconst 1, 1) := by decide +kernel
theorem dX1_isNeck_43 : decode cX1_isNeck 43 = .ok (.goto 4, 3) := by decide +kernel
theorem dX1_isNeck_46 : decode cX1_isNeck 46 = .ok (.iconst 0, 1) := by decide +kernel
theorem dX1_isNeck_47 : decode cX1_isNeck 47 = .ok (.ireturn, 1) := by decide +kernel
set_option maxRecDepth 20000 in
theorem ggX1_necks_X2_neighbour : GoodIn wsX1_necks wsX2_neighbour := goodIn_r _ [5] (by decide +kernel) (by decide +kernel)
set_option maxRecDepth 20000 in
theorem gX1_necks_X2_neighbour_n89 : GoodIn wsX1_necks (wsX2_neighbour) := ggX1_necks_X2_neighbour
set_option maxRecDepth 20000 in
theorem ggX1_necks_X1_placeOf : GoodIn wsX1_necks wsX1_placeOf := goodIn_r _ [10, 11, 12, 4, 13, 14, 15, 16, 17, 18, 19, 20, 21, 22, 23, 24, 25, 26, 27] (by decide +kernel) (by decide +kernel)
set_option maxRecDepth 20000 in
theorem gX1_necks_X1_placeOf : GoodIn wsX1_necks (wsV RX1 106 RX1 yX1_placeOf wsX1_placeOf) := goodIn_app (goodIn_of _ (by decide +kernel)) ggX1_necks_X1_placeOf
theorem dX1_necks_0 : decode cX1_necks 0 = .ok (.iconst 0, 1) := by decide +kernel
theorem dX1_necks_1 : decode cX1_necks 1 = .ok (.istore_n 1, 1) := by decide +kernel
theorem dX1_necks_2 : decode cX1_necks 2 = .ok (.iconst 0, 1) := by decide +kernel
theorem dX1_necks_3 : decode cX1_necks 3 = .ok (.istore_n 2, 1) := by decide +kernel
theorem dX1_necks_4 : decode cX1_necks 4 = .ok (.iload_n 2, 1) := by decide +kernel
theorem dX1_necks_5 : decode cX1_necks 5 = .ok (.aload_n 0, 1) := by decide +kernel
theorem dX1_necks_6 : decode cX1_necks 6 = .ok (.getfield 46, 3) := by decide +kernel
theorem dX1_necks_9 : decode cX1_necks 9 = .ok (.if_icmp .ge 45, 3) := by decide +kernel
theorem dX1_necks_12 : decode cX1_necks 12 = .ok (.iconst 0, 1) := by decide +kernel
theorem dX1_necks_13 : decode cX1_necks 13 = .ok (.istore_n 3, 1) := by decide +kernel
theorem dX1_necks_14 : decode cX1_necks 14 = .ok (.iload_n 3, 1) := by decide +kernel
theorem dX1_necks_15 : decode cX1_necks 15 = .ok (.iconst 4, 1) := by decide +kernel
theorem dX1_necks_16 : decode cX1_necks 16 = .ok (.if_icmp .ge 32, 3) := by decide +kernel
theorem dX1_necks_19 : decode cX1_necks 19 = .ok (.aload_n 0, 1) := by decide +kernel
theorem dX1_necks_20 : decode cX1_necks 20 = .ok (.aload_n 0, 1) := by decide +kernel
theorem dX1_necks_21 : decode cX1_necks 21 = .ok (.getfield 31, 3) := by decide +kernel
theorem dX1_necks_24 : decode cX1_necks 24 = .ok (.iload_n 2, 1) := by decide +kernel
theorem dX1_necks_25 : decode cX1_necks 25 = .ok (.iaload, 1) := by decide +kernel
theorem dX1_necks_26 : decode cX1_necks 26 = .ok (.iload_n 3, 1) := by decide +kernel
theorem dX1_necks_27 : decode cX1_necks 27 = .ok (.invokestatic 89, 3) := by decide +kernel
theorem dX1_necks_30 : decode cX1_necks 30 = .ok (.invokevirtual 106, 3) := by decide +kernel
theorem dX1_necks_33 : decode cX1_necks 33 = .ok (.iload_n 2, 1) := by decide +kernel
theorem dX1_necks_34 : decode cX1_necks 34 = .ok (.isub, 1) := by decide +kernel
theorem dX1_necks_35 : decode cX1_necks 35 = .ok (.iconst 3, 1) := by decide +kernel
theorem dX1_necks_36 : decode cX1_necks 36 = .ok (.if_icmp .lt 6, 3) := by decide +kernel
theorem dX1_necks_39 : decode cX1_necks 39 = .ok (.iinc 1 1, 3) := by decide +kernel
theorem dX1_necks_42 : decode cX1_necks 42 = .ok (.iinc 3 1, 3) := by decide +kernel
theorem dX1_necks_45 : decode cX1_necks 45 = .ok (.goto (-31), 3) := by decide +kernel
theorem dX1_necks_48 : decode cX1_necks 48 = .ok (.iinc 2 1, 3) := by decide +kernel
theorem dX1_necks_51 : decode cX1_necks 51 = .ok (.goto (-47), 3) := by decide +kernel
theorem dX1_necks_54 : decode cX1_necks 54 = .ok (.iload_n 1, 1) := by decide +kernel
theorem dX1_necks_55 : decode cX1_necks 55 = .ok (.ireturn, 1) := by decide +kernel
set_option maxRecDepth 20000 in
theorem ggX1_farthestAcross_X1_cellAt : GoodIn wsX1_farthestAcross wsX1_cellAt := goodIn_r _ [5, 6, 7, 8, 9, 4, 10, 11, 22, 23, 24, 25, 26, 27, 28, 29, 30, 31, 32, 33, 34, 35] (by decide +kernel) (by decide +kernel)
set_option maxRecDepth 20000 in
theorem gX1_farthestAcross_X1_cellAt : GoodIn wsX1_farthestAcross (wsV RX1 79 RX1 yX1_cellAt wsX1_cellAt) := goodIn_app (goodIn_of _ (by decide +kernel)) ggX1_farthestAcross_X1_cellAt
set_option maxRecDepth 20000 in
theorem ggX1_farthestAcross_X2_neighbour : GoodIn wsX1_farthestAcross wsX2_neighbour := goodIn_r _ [14] (by decide +kernel) (by decide +kernel)
set_option maxRecDepth 20000 in
theorem gX1_farthestAcross_X2_neighbour_n89 : GoodIn wsX1_farthestAcross (wsX2_neighbour) := ggX1_farthestAcross_X2_neighbour
set_option maxRecDepth 20000 in
theorem ggX1_farthestAcross_X1_placeOf : GoodIn wsX1_farthestAcross wsX1_placeOf := goodIn_r _ [18, 19, 20, 13, 21, 22, 23, 24, 25, 26, 27, 28, 29, 30, 31, 32, 33, 34, 35] (by decide +kernel) (by decide +kernel)
set_option maxRecDepth 20000 in
theorem gX1_farthestAcross_X1_placeOf : GoodIn wsX1_farthestAcross (wsV RX1 106 RX1 yX1_placeOf wsX1_placeOf) := goodIn_app (goodIn_of _ (by decide +kernel)) ggX1_farthestAcross_X1_placeOf
theorem dX1_farthestAcross_0 : decode cX1_farthestAcross 0 = .ok (.iconst (-1), 1) := by decide +kernel
theorem dX1_farthestAcross_1 : decode cX1_farthestAcross 1 = .ok (.istore_n 2, 1) := by decide +kernel
theorem dX1_farthestAcross_2 : decode cX1_farthestAcross 2 = .ok (.iconst 0, 1) := by decide +kernel
theorem dX1_farthestAcross_3 : decode cX1_farthestAcross 3 = .ok (.istore_n 3, 1) := by decide +kernel
theorem dX1_farthestAcross_4 : decode cX1_farthestAcross 4 = .ok (.iload_n 3, 1) := by decide +kernel
theorem dX1_farthestAcross_5 : decode cX1_farthestAcross 5 = .ok (.iconst 4, 1) := by decide +kernel
theorem dX1_farthestAcross_6 : decode cX1_farthestAcross 6 = .ok (.if_icmp .ge 41, 3) := by decide +kernel
theorem dX1_farthestAcross_9 : decode cX1_farthestAcross 9 = .ok (.aload_n 0, 1) := by decide +kernel
theorem dX1_farthestAcross_10 : decode cX1_farthestAcross 10 = .ok (.aload_n 0, 1) := by decide +kernel
theorem dX1_farthestAcross_11 : decode cX1_farthestAcross 11 = .ok (.iload_n 1, 1) := by decide +kernel
theorem dX1_farthestAcross_12 : decode cX1_farthestAcross 12 = .ok (.invokevirtual 79, 3) := by decide +kernel
theorem dX1_farthestAcross_15 : decode cX1_farthestAcross 15 = .ok (.iload_n 3, 1) := by decide +kernel
theorem dX1_farthestAcross_16 : decode cX1_farthestAcross 16 = .ok (.invokestatic 89, 3) := by decide +kernel
theorem dX1_farthestAcross_19 : decode cX1_farthestAcross 19 = .ok (.invokevirtual 106, 3) := by decide +kernel
theorem dX1_farthestAcross_22 : decode cX1_farthestAcross 22 = .ok (.istore 4, 2) := by decide +kernel
theorem dX1_farthestAcross_24 : decode cX1_farthestAcross 24 = .ok (.iload 4, 2) := by decide +kernel
theorem dX1_farthestAcross_26 : decode cX1_farthestAcross 26 = .ok (.iload_n 1, 1) := by decide +kernel
theorem dX1_farthestAcross_27 : decode cX1_farthestAcross 27 = .ok (.isub, 1) := by decide +kernel
theorem dX1_farthestAcross_28 : decode cX1_farthestAcross 28 = .ok (.iconst 3, 1) := by decide +kernel
theorem dX1_farthestAcross_29 : decode cX1_farthestAcross 29 = .ok (.if_icmp .lt 12, 3) := by decide +kernel
theorem dX1_farthestAcross_32 : decode cX1_farthestAcross 32 = .ok (.iload 4, 2) := by decide +kernel
theorem dX1_farthestAcross_34 : decode cX1_farthestAcross 34 = .ok (.iload_n 2, 1) := by decide +kernel
theorem dX1_farthestAcross_35 : decode cX1_farthestAcross 35 = .ok (.if_icmp .le 6, 3) := by decide +kernel
theorem dX1_farthestAcross_38 : decode cX1_farthestAcross 38 = .ok (.iload 4, 2) := by decide +kernel
theorem dX1_farthestAcross_40 : decode cX1_farthestAcross 40 = .ok (.istore_n 2, 1) := by decide +kernel
theorem dX1_farthestAcross_41 : decode cX1_farthestAcross 41 = .ok (.iinc 3 1, 3) := by decide +kernel
theorem dX1_farthestAcross_44 : decode cX1_farthestAcross 44 = .ok (.goto (-40), 3) := by decide +kernel
theorem dX1_farthestAcross_47 : decode cX1_farthestAcross 47 = .ok (.iload_n 2, 1) := by decide +kernel
theorem dX1_farthestAcross_48 : decode cX1_farthestAcross 48 = .ok (.ireturn, 1) := by decide +kernel
set_option maxRecDepth 20000 in
theorem ggX1_widestNeck_X1_farthestAcross : GoodIn wsX1_widestNeck wsX1_farthestAcross := goodIn_r _ [6, 7, 8, 9, 5, 10, 11, 12, 13, 14, 15, 1, 16, 17, 18, 19, 20, 21, 22, 23, 24, 25, 26, 27, 28, 29, 30, 31, 32, 33, 34, 35, 36, 37, 38, 39] (by decide +kernel) (by decide +kernel)
set_option maxRecDepth 20000 in
theorem gX1_widestNeck_X1_farthestAcross : GoodIn wsX1_widestNeck (wsV RX1 109 RX1 yX1_farthestAcross wsX1_farthestAcross) := goodIn_app (goodIn_of _ (by decide +kernel)) ggX1_widestNeck_X1_farthestAcross
theorem dX1_widestNeck_0 : decode cX1_widestNeck 0 = .ok (.iconst (-1), 1) := by decide +kernel
theorem dX1_widestNeck_1 : decode cX1_widestNeck 1 = .ok (.istore_n 1, 1) := by decide +kernel
theorem dX1_widestNeck_2 : decode cX1_widestNeck 2 = .ok (.iconst 0, 1) := by decide +kernel
theorem dX1_widestNeck_3 : decode cX1_widestNeck 3 = .ok (.istore_n 2, 1) := by decide +kernel
theorem dX1_widestNeck_4 : decode cX1_widestNeck 4 = .ok (.iconst 0, 1) := by decide +kernel
theorem dX1_widestNeck_5 : decode cX1_widestNeck 5 = .ok (.istore_n 3, 1) := by decide +kernel
theorem dX1_widestNeck_6 : decode cX1_widestNeck 6 = .ok (.iload_n 3, 1) := by decide +kernel
theorem dX1_widestNeck_7 : decode cX1_widestNeck 7 = .ok (.aload_n 0, 1) := by decide +kernel
theorem dX1_widestNeck_8 : decode cX1_widestNeck 8 = .ok (.getfield 46, 3) := by decide +kernel
theorem dX1_widestNeck_11 : decode cX1_widestNeck 11 = .ok (.if_icmp .ge 29, 3) := by decide +kernel
theorem dX1_widestNeck_14 : decode cX1_widestNeck 14 = .ok (.aload_n 0, 1) := by decide +kernel
theorem dX1_widestNeck_15 : decode cX1_widestNeck 15 = .ok (.iload_n 3, 1) := by decide +kernel
theorem dX1_widestNeck_16 : decode cX1_widestNeck 16 = .ok (.invokevirtual 109, 3) := by decide +kernel
theorem dX1_widestNeck_19 : decode cX1_widestNeck 19 = .ok (.iload_n 3, 1) := by decide +kernel
theorem dX1_widestNeck_20 : decode cX1_widestNeck 20 = .ok (.isub, 1) := by decide +kernel
theorem dX1_widestNeck_21 : decode cX1_widestNeck 21 = .ok (.istore 4, 2) := by decide +kernel
theorem dX1_widestNeck_23 : decode cX1_widestNeck 23 = .ok (.iload 4, 2) := by decide +kernel
theorem dX1_widestNeck_25 : decode cX1_widestNeck 25 = .ok (.iload_n 2, 1) := by decide +kernel
theorem dX1_widestNeck_26 : decode cX1_widestNeck 26 = .ok (.if_icmp .le 8, 3) := by decide +kernel
theorem dX1_widestNeck_29 : decode cX1_widestNeck 29 = .ok (.iload 4, 2) := by decide +kernel
theorem dX1_widestNeck_31 : decode cX1_widestNeck 31 = .ok (.istore_n 2, 1) := by decide +kernel
theorem dX1_widestNeck_32 : decode cX1_widestNeck 32 = .ok (.iload_n 3, 1) := by decide +kernel
theorem dX1_widestNeck_33 : decode cX1_widestNeck 33 = .ok (.istore_n 1, 1) := by decide +kernel
theorem dX1_widestNeck_34 : decode cX1_widestNeck 34 = .ok (.iinc 3 1, 3) := by decide +kernel
theorem dX1_widestNeck_37 : decode cX1_widestNeck 37 = .ok (.goto (-31), 3) := by decide +kernel
theorem dX1_widestNeck_40 : decode cX1_widestNeck 40 = .ok (.iload_n 1, 1) := by decide +kernel
theorem dX1_widestNeck_41 : decode cX1_widestNeck 41 = .ok (.ireturn, 1) := by decide +kernel
set_option maxRecDepth 20000 in
theorem ggX1_breakThrough_X1_isNeck : GoodIn wsX1_breakThrough wsX1_isNeck := goodIn_r _ [15, 4, 16, 17, 18, 14, 19, 5, 20, 21, 22, 23, 24, 25, 47, 48, 49, 50, 51, 52, 53, 54, 55, 56, 57, 58, 59, 60] (by decide +kernel) (by decide +kernel)
set_option maxRecDepth 20000 in
theorem gX1_breakThrough_X1_isNeck : GoodIn wsX1_breakThrough (wsV RX1 112 RX1 yX1_isNeck wsX1_isNeck) := goodIn_app (goodIn_of _ (by decide +kernel)) ggX1_breakThrough_X1_isNeck
set_option maxRecDepth 20000 in
theorem ggX1_breakThrough_X1_cellAt : GoodIn wsX1_breakThrough wsX1_cellAt := goodIn_r _ [29, 4, 16, 17, 18, 14, 19, 5, 47, 48, 49, 50, 51, 52, 53, 54, 55, 56, 57, 58, 59, 60] (by decide +kernel) (by decide +kernel)
set_option maxRecDepth 20000 in
theorem gX1_breakThrough_X1_cellAt : GoodIn wsX1_breakThrough (wsV RX1 79 RX1 yX1_cellAt wsX1_cellAt) := goodIn_app (goodIn_of _ (by decide +kernel)) ggX1_breakThrough_X1_cellAt
set_option maxRecDepth 20000 in
theorem ggX1_breakThrough_X2_isCell : GoodIn wsX1_breakThrough wsX2_isCell := goodIn_r _ [31] (by decide +kernel) (by decide +kernel)
set_option maxRecDepth 20000 in
theorem gX1_breakThrough_X2_isCell_n70 : GoodIn wsX1_breakThrough (wsX2_isCell) := ggX1_breakThrough_X2_isCell
set_option maxRecDepth 20000 in
theorem ggX1_breakThrough_X1_followCourse : GoodIn wsX1_breakThrough wsX1_followCourse := goodIn_r _ [35, 36, 37, 38, 39, 5, 4, 1, 40, 30, 21, 31, 26, 27, 28, 14, 29, 16, 17, 18, 19, 20, 22, 23, 24, 25, 41, 42, 43, 44, 45, 46, 47, 48, 49, 50, 51, 52, 53, 54, 55, 56, 57, 58, 59, 60] (by decide +kernel) (by decide +kernel)
set_option maxRecDepth 20000 in
theorem gX1_breakThrough_X1_followCourse : GoodIn wsX1_breakThrough (wsV RX1 50 RX1 yX1_followCourse wsX1_followCourse) := goodIn_app (goodIn_of _ (by decide +kernel)) ggX1_breakThrough_X1_followCourse
theorem dX1_breakThrough_0 : decode cX1_breakThrough 0 = .ok (.aload_n 0, 1) := by decide +kernel
theorem dX1_breakThrough_1 : decode cX1_breakThrough 1 = .ok (.iload_n 1, 1) := by decide +kernel
theorem dX1_breakThrough_2 : decode cX1_breakThrough 2 = .ok (.iload_n 2, 1) := by decide +kernel
theorem dX1_breakThrough_3 : decode cX1_breakThrough 3 = .ok (.invokevirtual 112, 3) := by decide +kernel
theorem dX1_breakThrough_6 : decode cX1_breakThrough 6 = .ok (.ifCond .ne 4, 3) := by decide +kernel
theorem dX1_breakThrough_9 : decode cX1_breakThrough 9 = .ok (.return_, 1) := by decide +kernel
theorem dX1_breakThrough_10 : decode cX1_breakThrough 10 = .ok (.iload_n 1, 1) := by decide +kernel
theorem dX1_breakThrough_11 : decode cX1_breakThrough 11 = .ok (.iconst 1, 1) := by decide +kernel
theorem dX1_breakThrough_12 : decode cX1_breakThrough 12 = .ok (.iadd, 1) := by decide +kernel
theorem dX1_breakThrough_13 : decode cX1_breakThrough 13 = .ok (.istore_n 3, 1) := by decide +kernel
theorem dX1_breakThrough_14 : decode cX1_breakThrough 14 = .ok (.iload_n 3, 1) := by decide +kernel
theorem dX1_breakThrough_15 : decode cX1_breakThrough 15 = .ok (.iload_n 2, 1) := by decide +kernel
theorem dX1_breakThrough_16 : decode cX1_breakThrough 16 = .ok (.if_icmp .ge 46, 3) := by decide +kernel
theorem dX1_breakThrough_19 : decode cX1_breakThrough 19 = .ok (.aload_n 0, 1) := by decide +kernel
theorem dX1_breakThrough_20 : decode cX1_breakThrough 20 = .ok (.iload_n 3, 1) := by decide +kernel
theorem dX1_breakThrough_21 : decode cX1_breakThrough 21 = .ok (.invokevirtual 79, 3) := by decide +kernel
theorem dX1_breakThrough_24 : decode cX1_breakThrough 24 = .ok (.istore 4, 2) := by decide +kernel
theorem dX1_breakThrough_26 : decode cX1_breakThrough 26 = .ok (.iload 4, 2) := by decide +kernel
theorem dX1_breakThrough_28 : decode cX1_breakThrough 28 = .ok (.invokestatic 70, 3) := by decide +kernel
theorem dX1_breakThrough_31 : decode cX1_breakThrough 31 = .ok (.ifCond .eq 25, 3) := by decide +kernel
theorem dX1_breakThrough_34 : decode cX1_breakThrough 34 = .ok (.aload_n 0, 1) := by decide +kernel
theorem dX1_breakThrough_35 : decode cX1_breakThrough 35 = .ok (.getfield 34, 3) := by decide +kernel
theorem dX1_breakThrough_38 : decode cX1_breakThrough 38 = .ok (.iload 4, 2) := by decide +kernel
theorem dX1_breakThrough_40 : decode cX1_breakThrough 40 = .ok (.iconst (-1), 1) := by decide +kernel
theorem dX1_breakThrough_41 : decode cX1_breakThrough 41 = .ok (.iastore, 1) := by decide +kernel
theorem dX1_breakThrough_42 : decode cX1_breakThrough 42 = .ok (.aload_n 0, 1) := by decide +kernel
theorem dX1_breakThrough_43 : decode cX1_breakThrough 43 = .ok (.getfield 22, 3) := by decide +kernel
theorem dX1_breakThrough_46 : decode cX1_breakThrough 46 = .ok (.iload 4, 2) := by decide +kernel
theorem dX1_breakThrough_48 : decode cX1_breakThrough 48 = .ok (.aload_n 0, 1) := by decide +kernel
theorem dX1_breakThrough_49 : decode cX1_breakThrough 49 = .ok (.getfield 60, 3) := by decide +kernel
theorem dX1_breakThrough_52 : decode cX1_breakThrough 52 = .ok (.bipush 10, 2) := by decide +kernel
theorem dX1_breakThrough_54 : decode cX1_breakThrough 54 = .ok (.iadd, 1) := by decide +kernel
theorem dX1_breakThrough_55 : decode cX1_breakThrough 55 = .ok (.iastore, 1) := by decide +kernel
theorem dX1_breakThrough_56 : decode cX1_breakThrough 56 = .ok (.iinc 3 1, 3) := by decide +kernel
theorem dX1_breakThrough_59 : decode cX1_breakThrough 59 = .ok (.goto (-45), 3) := by decide +kernel
theorem dX1_breakThrough_62 : decode cX1_breakThrough 62 = .ok (.aload_n 0, 1) := by decide +kernel
theorem dX1_breakThrough_63 : decode cX1_breakThrough 63 = .ok (.getfield 31, 3) := by decide +kernel
theorem dX1_breakThrough_66 : decode cX1_breakThrough 66 = .ok (.iload_n 2, 1) := by decide +kernel
theorem dX1_breakThrough_67 : decode cX1_breakThrough 67 = .ok (.aload_n 0, 1) := by decide +kernel
theorem dX1_breakThrough_68 : decode cX1_breakThrough 68 = .ok (.getfield 31, 3) := by decide +kernel
theorem dX1_breakThrough_71 : decode cX1_breakThrough 71 = .ok (.iload_n 1, 1) := by decide +kernel
theorem dX1_breakThrough_72 : decode cX1_breakThrough 72 = .ok (.iconst 1, 1) := by decide +kernel
theorem dX1_breakThrough_73 : decode cX1_breakThrough 73 = .ok (.iadd, 1) := by decide +kernel
theorem dX1_breakThrough_74 : decode cX1_breakThrough 74 = .ok (.aload_n 0, 1) := by decide +kernel
theorem dX1_breakThrough_75 : decode cX1_breakThrough 75 = .ok (.getfield 46, 3) := by decide +kernel
theorem dX1_breakThrough_78 : decode cX1_breakThrough 78 = .ok (.iload_n 2, 1) := by decide +kernel
theorem dX1_breakThrough_79 : decode cX1_breakThrough 79 = .ok (.isub, 1) := by decide +kernel
theorem dX1_breakThrough_80 : decode cX1_breakThrough 80 = .ok (.invokestatic 54, 3) := by decide +kernel
theorem dX1_breakThrough_83 : decode cX1_breakThrough 83 = .ok (.aload_n 0, 1) := by decide +kernel
theorem dX1_breakThrough_84 : decode cX1_breakThrough 84 = .ok (.dup, 1) := by decide +kernel
theorem dX1_breakThrough_85 : decode cX1_breakThrough 85 = .ok (.getfield 46, 3) := by decide +kernel
theorem dX1_breakThrough_88 : decode cX1_breakThrough 88 = .ok (.iload_n 2, 1) := by decide +kernel
theorem dX1_breakThrough_89 : decode cX1_breakThrough 89 = .ok (.iload_n 1, 1) := by decide +kernel
theorem dX1_breakThrough_90 : decode cX1_breakThrough 90 = .ok (.isub, 1) := by decide +kernel
theorem dX1_breakThrough_91 : decode cX1_breakThrough 91 = .ok (.iconst 1, 1) := by decide +kernel
theorem dX1_breakThrough_92 : decode cX1_breakThrough 92 = .ok (.isub, 1) := by decide +kernel
theorem dX1_breakThrough_93 : decode cX1_breakThrough 93 = .ok (.isub, 1) := by decide +kernel
theorem dX1_breakThrough_94 : decode cX1_breakThrough 94 = .ok (.putfield 46, 3) := by decide +kernel
theorem dX1_breakThrough_97 : decode cX1_breakThrough 97 = .ok (.aload_n 0, 1) := by decide +kernel
theorem dX1_breakThrough_98 : decode cX1_breakThrough 98 = .ok (.dup, 1) := by decide +kernel
theorem dX1_breakThrough_99 : decode cX1_breakThrough 99 = .ok (.getfield 63, 3) := by decide +kernel
theorem dX1_breakThrough_102 : decode cX1_breakThrough 102 = .ok (.iconst 1, 1) := by decide +kernel
theorem dX1_breakThrough_103 : decode cX1_breakThrough 103 = .ok (.iadd, 1) := by decide +kernel
theorem dX1_breakThrough_104 : decode cX1_breakThrough 104 = .ok (.putfield 63, 3) := by decide +kernel
theorem dX1_breakThrough_107 : decode cX1_breakThrough 107 = .ok (.aload_n 0, 1) := by decide +kernel
theorem dX1_breakThrough_108 : decode cX1_breakThrough 108 = .ok (.iload_n 1, 1) := by decide +kernel
theorem dX1_breakThrough_109 : decode cX1_breakThrough 109 = .ok (.iconst 1, 1) := by decide +kernel
theorem dX1_breakThrough_110 : decode cX1_breakThrough 110 = .ok (.iadd, 1) := by decide +kernel
theorem dX1_breakThrough_111 : decode cX1_breakThrough 111 = .ok (.invokevirtual 50, 3) := by decide +kernel
theorem dX1_breakThrough_114 : decode cX1_breakThrough 114 = .ok (.return_, 1) := by decide +kernel
set_option maxRecDepth 20000 in
theorem ggX1_letPass_J9_floorMod_7cf53 : GoodIn wsX1_letPass wsJ9_floorMod_7cf53 := goodIn_r _ [6] (by decide +kernel) (by decide +kernel)
set_option maxRecDepth 20000 in
theorem gX1_letPass_J9_floorMod_7cf53 : GoodIn wsX1_letPass (va_wsS RX1 115 yJ9_floorMod_7cf53 wsJ9_floorMod_7cf53) := goodIn_app (goodIn_of _ (by decide +kernel)) ggX1_letPass_J9_floorMod_7cf53
set_option maxRecDepth 20000 in
theorem ggX1_letPass_X1_wearBanks : GoodIn wsX1_letPass wsX1_wearBanks := goodIn_r _ [11, 12, 13, 14, 15, 16, 17, 10, 18, 19, 20, 21, 22, 23, 104, 105, 106, 107, 108, 109, 110, 111, 112, 113, 114, 115, 116, 117] (by decide +kernel) (by decide +kernel)
set_option maxRecDepth 20000 in
theorem gX1_letPass_X1_wearBanks : GoodIn wsX1_letPass (wsV RX1 118 RX1 yX1_wearBanks wsX1_wearBanks) := goodIn_app (goodIn_of _ (by decide +kernel)) ggX1_letPass_X1_wearBanks
set_option maxRecDepth 20000 in
theorem ggX1_letPass_X1_bulgeWhereRipest : GoodIn wsX1_letPass wsX1_bulgeWhereRipest := goodIn_r _ [27, 12, 13, 14, 28, 29, 21, 22, 23, 30, 31, 32, 10, 33, 34, 35, 36, 37, 38, 39, 40, 41, 42, 43, 44, 45, 46, 47, 48, 49, 15, 16, 17, 18, 19, 20, 50, 51, 52, 53, 54, 55, 56, 57, 58, 59, 60, 61, 62, 63, 64, 65, 66, 67, 68, 69, 70, 71, 72, 73, 74, 75, 76, 77, 78, 104, 105, 106, 107, 108, 109, 110, 111, 112, 113, 114, 115, 116, 117] (by decide +kernel) (by decide +kernel)
set_option maxRecDepth 20000 in
theorem gX1_letPass_X1_bulgeWhereRipest : GoodIn wsX1_letPass (wsV RX1 121 RX1 yX1_bulgeWhereRipest wsX1_bulgeWhereRipest) := goodIn_app (goodIn_of _ (by decide +kernel)) ggX1_letPass_X1_bulgeWhereRipest
set_option maxRecDepth 20000 in
theorem ggX1_letPass_X1_flood : GoodIn wsX1_letPass wsX1_flood := goodIn_r _ [82, 83, 84, 85, 10, 86, 12, 87, 88, 89, 90, 43, 44, 45, 46, 47, 39, 40, 41, 42, 48, 22, 49, 91, 92, 93, 94, 19, 21, 23, 95, 96, 97, 98, 62, 2, 54, 55, 56, 57, 99, 100, 101, 102, 103, 72, 73, 74, 64, 65, 66, 67, 68, 69, 70, 71, 34, 75, 76, 77, 78, 29, 13, 104, 105, 106, 107, 108, 109, 110, 111, 112, 113, 114, 115, 116, 117] (by decide +kernel) (by decide +kernel)
set_option maxRecDepth 20000 in
theorem gX1_letPass_X1_flood : GoodIn wsX1_letPass (wsV RX1 125 RX1 yX1_flood wsX1_flood) := goodIn_app (goodIn_of _ (by decide +kernel)) ggX1_letPass_X1_flood
theorem dX1_letPass_0 : decode cX1_letPass 0 = .ok (.iconst 0, 1) := by decide +kernel
theorem dX1_letPass_1 : decode cX1_letPass 1 = .ok (.istore_n 2, 1) := by decide +kernel
theorem dX1_letPass_2 : decode cX1_letPass 2 = .ok (.iconst 0, 1) := by decide +kernel
theorem dX1_letPass_3 : decode cX1_letPass 3 = .ok (.istore_n 3, 1) := by decide +kernel
theorem dX1_letPass_4 : decode cX1_letPass 4 = .ok (.iload_n 3, 1) := by decide +kernel
theorem dX1_letPass_5 : decode cX1_letPass 5 = .ok (.iload_n 1, 1) := by decide +kernel
theorem dX1_letPass_6 : decode cX1_letPass 6 = .ok (.if_icmp .ge 62, 3) := by decide +kernel
theorem dX1_letPass_9 : decode cX1_letPass 9 = .ok (.aload_n 0, 1) := by decide +kernel
theorem dX1_letPass_10 : decode cX1_letPass 10 = .ok (.getfield 28, 3) := by decide +kernel
theorem dX1_letPass_13 : decode cX1_letPass 13 = .ok (.aload_n 0, 1) := by decide +kernel
theorem dX1_letPass_14 : decode cX1_letPass 14 = .ok (.getfield 60, 3) := by decide +kernel
theorem dX1_letPass_17 : decode cX1_letPass 17 = .ok (.bipush 12, 2) := by decide +kernel
theorem dX1_letPass_19 : decode cX1_letPass 19 = .ok (.invokestatic 115, 3) := by decide +kernel
theorem dX1_letPass_22 : decode cX1_letPass 22 = .ok (.iaload, 1) := by decide +kernel
theorem dX1_letPass_23 : decode cX1_letPass 23 = .ok (.istore 4, 2) := by decide +kernel
theorem dX1_letPass_25 : decode cX1_letPass 25 = .ok (.aload_n 0, 1) := by decide +kernel
theorem dX1_letPass_26 : decode cX1_letPass 26 = .ok (.iload 4, 2) := by decide +kernel
theorem dX1_letPass_28 : decode cX1_letPass 28 = .ok (.invokevirtual 118, 3) := by decide +kernel
theorem dX1_letPass_31 : decode cX1_letPass 31 = .ok (.aload_n 0, 1) := by decide +kernel
theorem dX1_letPass_32 : decode cX1_letPass 32 = .ok (.invokevirtual 121, 3) := by decide +kernel
theorem dX1_letPass_35 : decode cX1_letPass 35 = .ok (.ifCond .eq 6, 3) := by decide +kernel
theorem dX1_letPass_38 : decode cX1_letPass 38 = .ok (.iinc 2 1, 3) := by decide +kernel
theorem dX1_letPass_41 : decode cX1_letPass 41 = .ok (.iload 4, 2) := by decide +kernel
theorem dX1_letPass_43 : decode cX1_letPass 43 = .ok (.bipush 7, 2) := by decide +kernel
theorem dX1_letPass_45 : decode cX1_letPass 45 = .ok (.if_icmp .lt 7, 3) := by decide +kernel
theorem dX1_letPass_48 : decode cX1_letPass 48 = .ok (.aload_n 0, 1) := by decide +kernel
theorem dX1_letPass_49 : decode cX1_letPass 49 = .ok (.invokevirtual 125, 3) := by decide +kernel
theorem dX1_letPass_52 : decode cX1_letPass 52 = .ok (.aload_n 0, 1) := by decide +kernel
theorem dX1_letPass_53 : decode cX1_letPass 53 = .ok (.dup, 1) := by decide +kernel
theorem dX1_letPass_54 : decode cX1_letPass 54 = .ok (.getfield 60, 3) := by decide +kernel
theorem dX1_letPass_57 : decode cX1_letPass 57 = .ok (.iconst 1, 1) := by decide +kernel
theorem dX1_letPass_58 : decode cX1_letPass 58 = .ok (.iadd, 1) := by decide +kernel
theorem dX1_letPass_59 : decode cX1_letPass 59 = .ok (.putfield 60, 3) := by decide +kernel
theorem dX1_letPass_62 : decode cX1_letPass 62 = .ok (.iinc 3 1, 3) := by decide +kernel
theorem dX1_letPass_65 : decode cX1_letPass 65 = .ok (.goto (-61), 3) := by decide +kernel
theorem dX1_letPass_68 : decode cX1_letPass 68 = .ok (.iload_n 2, 1) := by decide +kernel
theorem dX1_letPass_69 : decode cX1_letPass 69 = .ok (.ireturn, 1) := by decide +kernel
set_option maxRecDepth 20000 in
theorem ggX1_wearBanks_X1_isOpen : GoodIn wsX1_wearBanks wsX1_isOpen := goodIn_r _ [8, 9, 10, 11, 12, 13, 14, 15, 16, 17, 18, 19, 20, 21, 22, 23, 24, 25, 26, 27] (by decide +kernel) (by decide +kernel)
set_option maxRecDepth 20000 in
theorem gX1_wearBanks_X1_isOpen : GoodIn wsX1_wearBanks (wsV RX1 95 RX1 yX1_isOpen wsX1_isOpen) := goodIn_app (goodIn_of _ (by decide +kernel)) ggX1_wearBanks_X1_isOpen
theorem dX1_wearBanks_0 : decode cX1_wearBanks 0 = .ok (.iconst 0, 1) := by decide +kernel
theorem dX1_wearBanks_1 : decode cX1_wearBanks 1 = .ok (.istore_n 2, 1) := by decide +kernel
theorem dX1_wearBanks_2 : decode cX1_wearBanks 2 = .ok (.iload_n 2, 1) := by decide +kernel
theorem dX1_wearBanks_3 : decode cX1_wearBanks 3 = .ok (.aload_n 0, 1) := by decide +kernel
theorem dX1_wearBanks_4 : decode cX1_wearBanks 4 = .ok (.getfield 46, 3) := by decide +kernel
theorem dX1_wearBanks_7 : decode cX1_wearBanks 7 = .ok (.if_icmp .ge 34, 3) := by decide +kernel
theorem dX1_wearBanks_10 : decode cX1_wearBanks 10 = .ok (.aload_n 0, 1) := by decide +kernel
theorem dX1_wearBanks_11 : decode cX1_wearBanks 11 = .ok (.getfield 43, 3) := by decide +kernel
theorem dX1_wearBanks_14 : decode cX1_wearBanks 14 = .ok (.iload_n 2, 1) := by decide +kernel
theorem dX1_wearBanks_15 : decode cX1_wearBanks 15 = .ok (.iaload, 1) := by decide +kernel
theorem dX1_wearBanks_16 : decode cX1_wearBanks 16 = .ok (.istore_n 3, 1) := by decide +kernel
theorem dX1_wearBanks_17 : decode cX1_wearBanks 17 = .ok (.aload_n 0, 1) := by decide +kernel
theorem dX1_wearBanks_18 : decode cX1_wearBanks 18 = .ok (.iload_n 3, 1) := by decide +kernel
theorem dX1_wearBanks_19 : decode cX1_wearBanks 19 = .ok (.invokevirtual 95, 3) := by decide +kernel
theorem dX1_wearBanks_22 : decode cX1_wearBanks 22 = .ok (.ifCond .eq 13, 3) := by decide +kernel
theorem dX1_wearBanks_25 : decode cX1_wearBanks 25 = .ok (.aload_n 0, 1) := by decide +kernel
theorem dX1_wearBanks_26 : decode cX1_wearBanks 26 = .ok (.getfield 15, 3) := by decide +kernel
theorem dX1_wearBanks_29 : decode cX1_wearBanks 29 = .ok (.iload_n 3, 1) := by decide +kernel
theorem dX1_wearBanks_30 : decode cX1_wearBanks 30 = .ok (.dup2, 1) := by decide +kernel
theorem dX1_wearBanks_31 : decode cX1_wearBanks 31 = .ok (.iaload, 1) := by decide +kernel
theorem dX1_wearBanks_32 : decode cX1_wearBanks 32 = .ok (.iload_n 1, 1) := by decide +kernel
theorem dX1_wearBanks_33 : decode cX1_wearBanks 33 = .ok (.iadd, 1) := by decide +kernel
theorem dX1_wearBanks_34 : decode cX1_wearBanks 34 = .ok (.iastore, 1) := by decide +kernel
theorem dX1_wearBanks_35 : decode cX1_wearBanks 35 = .ok (.iinc 2 1, 3) := by decide +kernel
theorem dX1_wearBanks_38 : decode cX1_wearBanks 38 = .ok (.goto (-36), 3) := by decide +kernel
theorem dX1_wearBanks_41 : decode cX1_wearBanks 41 = .ok (.return_, 1) := by decide +kernel
set_option maxRecDepth 20000 in
theorem ggX1_bulgeWhereRipest_X2_isCell : GoodIn wsX1_bulgeWhereRipest wsX2_isCell := goodIn_r _ [8] (by decide +kernel) (by decide +kernel)
set_option maxRecDepth 20000 in
theorem gX1_bulgeWhereRipest_X2_isCell_n70 : GoodIn wsX1_bulgeWhereRipest (wsX2_isCell) := ggX1_bulgeWhereRipest_X2_isCell
set_option maxRecDepth 20000 in
theorem ggX1_bulgeWhereRipest_X1_canBulge : GoodIn wsX1_bulgeWhereRipest wsX1_canBulge := goodIn_r _ [13, 1, 14, 15, 16, 17, 12, 18, 19, 20, 21, 22, 23, 24, 25, 26, 27, 28, 7, 29, 30, 31, 32, 33, 34, 35, 6, 8, 65, 66, 67, 68, 69, 70, 71, 72, 73, 74, 75, 76, 77, 78] (by decide +kernel) (by decide +kernel)
set_option maxRecDepth 20000 in
theorem gX1_bulgeWhereRipest_X1_canBulge : GoodIn wsX1_bulgeWhereRipest (wsV RX1 98 RX1 yX1_canBulge wsX1_canBulge) := goodIn_app (goodIn_of _ (by decide +kernel)) ggX1_bulgeWhereRipest_X1_canBulge
set_option maxRecDepth 20000 in
theorem ggX1_bulgeWhereRipest_X1_bulge : GoodIn wsX1_bulgeWhereRipest wsX1_bulge := goodIn_r _ [39, 34, 27, 1, 40, 41, 42, 43, 9, 10, 11, 12, 13, 14, 15, 16, 17, 18, 19, 20, 21, 22, 23, 24, 25, 26, 28, 7, 29, 30, 31, 32, 33, 35, 6, 8, 44, 45, 46, 47, 3, 48, 49, 50, 51, 52, 53, 54, 55, 56, 57, 58, 59, 60, 61, 62, 63, 64, 5, 2, 65, 66, 67, 68, 69, 70, 71, 72, 73, 74, 75, 76, 77, 78] (by decide +kernel) (by decide +kernel)
set_option maxRecDepth 20000 in
theorem gX1_bulgeWhereRipest_X1_bulge : GoodIn wsX1_bulgeWhereRipest (wsV RX1 128 RX1 yX1_bulge wsX1_bulge) := goodIn_app (goodIn_of _ (by decide +kernel)) ggX1_bulgeWhereRipest_X1_bulge
theorem dX1_bulgeWhereRipest_0 : decode cX1_bulgeWhereRipest 0 = .ok (.iconst (-1), 1) := by decide +kernel
theorem dX1_bulgeWhereRipest_1 : decode cX1_bulgeWhereRipest 1 = .ok (.istore_n 1, 1) := by decide +kernel
theorem dX1_bulgeWhereRipest_2 : decode cX1_bulgeWhereRipest 2 = .ok (.iconst (-1), 1) := by decide +kernel
theorem dX1_bulgeWhereRipest_3 : decode cX1_bulgeWhereRipest 3 = .ok (.istore_n 2, 1) := by decide +kernel
theorem dX1_bulgeWhereRipest_4 : decode cX1_bulgeWhereRipest 4 = .ok (.iconst 0, 1) := by decide +kernel
theorem dX1_bulgeWhereRipest_5 : decode cX1_bulgeWhereRipest 5 = .ok (.istore_n 3, 1) := by decide +kernel
theorem dX1_bulgeWhereRipest_6 : decode cX1_bulgeWhereRipest 6 = .ok (.iload_n 3, 1) := by decide +kernel
theorem dX1_bulgeWhereRipest_7 : decode cX1_bulgeWhereRipest 7 = .ok (.aload_n 0, 1) := by decide +kernel
theorem dX1_bulgeWhereRipest_8 : decode cX1_bulgeWhereRipest 8 = .ok (.getfield 46, 3) := by decide +kernel
theorem dX1_bulgeWhereRipest_11 : decode cX1_bulgeWhereRipest 11 = .ok (.if_icmp .ge 75, 3) := by decide +kernel
theorem dX1_bulgeWhereRipest_14 : decode cX1_bulgeWhereRipest 14 = .ok (.aload_n 0, 1) := by decide +kernel
theorem dX1_bulgeWhereRipest_15 : decode cX1_bulgeWhereRipest 15 = .ok (.getfield 43, 3) := by decide +kernel
theorem dX1_bulgeWhereRipest_18 : decode cX1_bulgeWhereRipest 18 = .ok (.iload_n 3, 1) := by decide +kernel
theorem dX1_bulgeWhereRipest_19 : decode cX1_bulgeWhereRipest 19 = .ok (.iaload, 1) := by decide +kernel
theorem dX1_bulgeWhereRipest_20 : decode cX1_bulgeWhereRipest 20 = .ok (.istore 4, 2) := by decide +kernel
theorem dX1_bulgeWhereRipest_22 : decode cX1_bulgeWhereRipest 22 = .ok (.iload 4, 2) := by decide +kernel
theorem dX1_bulgeWhereRipest_24 : decode cX1_bulgeWhereRipest 24 = .ok (.invokestatic 70, 3) := by decide +kernel
theorem dX1_bulgeWhereRipest_27 : decode cX1_bulgeWhereRipest 27 = .ok (.ifCond .eq 53, 3) := by decide +kernel
theorem dX1_bulgeWhereRipest_30 : decode cX1_bulgeWhereRipest 30 = .ok (.aload_n 0, 1) := by decide +kernel
theorem dX1_bulgeWhereRipest_31 : decode cX1_bulgeWhereRipest 31 = .ok (.getfield 15, 3) := by decide +kernel
theorem dX1_bulgeWhereRipest_34 : decode cX1_bulgeWhereRipest 34 = .ok (.iload 4, 2) := by decide +kernel
theorem dX1_bulgeWhereRipest_36 : decode cX1_bulgeWhereRipest 36 = .ok (.iaload, 1) := by decide +kernel
theorem dX1_bulgeWhereRipest_37 : decode cX1_bulgeWhereRipest 37 = .ok (.bipush 10, 2) := by decide +kernel
theorem dX1_bulgeWhereRipest_39 : decode cX1_bulgeWhereRipest 39 = .ok (.aload_n 0, 1) := by decide +kernel
theorem dX1_bulgeWhereRipest_40 : decode cX1_bulgeWhereRipest 40 = .ok (.getfield 9, 3) := by decide +kernel
theorem dX1_bulgeWhereRipest_43 : decode cX1_bulgeWhereRipest 43 = .ok (.iload 4, 2) := by decide +kernel
theorem dX1_bulgeWhereRipest_45 : decode cX1_bulgeWhereRipest 45 = .ok (.iaload, 1) := by decide +kernel
theorem dX1_bulgeWhereRipest_46 : decode cX1_bulgeWhereRipest 46 = .ok (.imul, 1) := by decide +kernel
theorem dX1_bulgeWhereRipest_47 : decode cX1_bulgeWhereRipest 47 = .ok (.isub, 1) := by decide +kernel
theorem dX1_bulgeWhereRipest_48 : decode cX1_bulgeWhereRipest 48 = .ok (.istore 5, 2) := by decide +kernel
theorem dX1_bulgeWhereRipest_50 : decode cX1_bulgeWhereRipest 50 = .ok (.iload 5, 2) := by decide +kernel
theorem dX1_bulgeWhereRipest_52 : decode cX1_bulgeWhereRipest 52 = .ok (.ifCond .lt 28, 3) := by decide +kernel
theorem dX1_bulgeWhereRipest_55 : decode cX1_bulgeWhereRipest 55 = .ok (.iload 5, 2) := by decide +kernel
theorem dX1_bulgeWhereRipest_57 : decode cX1_bulgeWhereRipest 57 = .ok (.iload_n 2, 1) := by decide +kernel
theorem dX1_bulgeWhereRipest_58 : decode cX1_bulgeWhereRipest 58 = .ok (.if_icmp .le 22, 3) := by decide +kernel
theorem dX1_bulgeWhereRipest_61 : decode cX1_bulgeWhereRipest 61 = .ok (.aload_n 0, 1) := by decide +kernel
theorem dX1_bulgeWhereRipest_62 : decode cX1_bulgeWhereRipest 62 = .ok (.iload_n 3, 1) := by decide +kernel
theorem dX1_bulgeWhereRipest_63 : decode cX1_bulgeWhereRipest 63 = .ok (.aload_n 0, 1) := by decide +kernel
theorem dX1_bulgeWhereRipest_64 : decode cX1_bulgeWhereRipest 64 = .ok (.getfield 40, 3) := by decide +kernel
theorem dX1_bulgeWhereRipest_67 : decode cX1_bulgeWhereRipest 67 = .ok (.iload_n 3, 1) := by decide +kernel
theorem dX1_bulgeWhereRipest_68 : decode cX1_bulgeWhereRipest 68 = .ok (.iaload, 1) := by decide +kernel
theorem dX1_bulgeWhereRipest_69 : decode cX1_bulgeWhereRipest 69 = .ok (.invokevirtual 98, 3) := by decide +kernel
theorem dX1_bulgeWhereRipest_72 : decode cX1_bulgeWhereRipest 72 = .ok (.ifCond .eq 8, 3) := by decide +kernel
theorem dX1_bulgeWhereRipest_75 : decode cX1_bulgeWhereRipest 75 = .ok (.iload 5, 2) := by decide +kernel
theorem dX1_bulgeWhereRipest_77 : decode cX1_bulgeWhereRipest 77 = .ok (.istore_n 2, 1) := by decide +kernel
theorem dX1_bulgeWhereRipest_78 : decode cX1_bulgeWhereRipest 78 = .ok (.iload_n 3, 1) := by decide +kernel
theorem dX1_bulgeWhereRipest_79 : decode cX1_bulgeWhereRipest 79 = .ok (.istore_n 1, 1) := by decide +kernel
theorem dX1_bulgeWhereRipest_80 : decode cX1_bulgeWhereRipest 80 = .ok (.iinc 3 1, 3) := by decide +kernel
theorem dX1_bulgeWhereRipest_83 : decode cX1_bulgeWhereRipest 83 = .ok (.goto (-77), 3) := by decide +kernel
theorem dX1_bulgeWhereRipest_86 : decode cX1_bulgeWhereRipest 86 = .ok (.iload_n 1, 1) := by decide +kernel
theorem dX1_bulgeWhereRipest_87 : decode cX1_bulgeWhereRipest 87 = .ok (.iconst (-1), 1) := by decide +kernel
theorem dX1_bulgeWhereRipest_88 : decode cX1_bulgeWhereRipest 88 = .ok (.if_icmp .ne 5, 3) := by decide +kernel
theorem dX1_bulgeWhereRipest_91 : decode cX1_bulgeWhereRipest 91 = .ok (.iconst 0, 1) := by decide +kernel
theorem dX1_bulgeWhereRipest_92 : decode cX1_bulgeWhereRipest 92 = .ok (.ireturn, 1) := by decide +kernel
theorem dX1_bulgeWhereRipest_93 : decode cX1_bulgeWhereRipest 93 = .ok (.aload_n 0, 1) := by decide +kernel
theorem dX1_bulgeWhereRipest_94 : decode cX1_bulgeWhereRipest 94 = .ok (.iload_n 1, 1) := by decide +kernel
theorem dX1_bulgeWhereRipest_95 : decode cX1_bulgeWhereRipest 95 = .ok (.aload_n 0, 1) := by decide +kernel
theorem dX1_bulgeWhereRipest_96 : decode cX1_bulgeWhereRipest 96 = .ok (.getfield 40, 3) := by decide +kernel
theorem dX1_bulgeWhereRipest_99 : decode cX1_bulgeWhereRipest 99 = .ok (.iload_n 1, 1) := by decide +kernel
theorem dX1_bulgeWhereRipest_100 : decode cX1_bulgeWhereRipest 100 = .ok (.iaload, 1) := by decide +kernel
theorem dX1_bulgeWhereRipest_101 : decode cX1_bulgeWhereRipest 101 = .ok (.invokevirtual 128, 3) := by decide +kernel
theorem dX1_bulgeWhereRipest_104 : decode cX1_bulgeWhereRipest 104 = .ok (.iconst 1, 1) := by decide +kernel
theorem dX1_bulgeWhereRipest_105 : decode cX1_bulgeWhereRipest 105 = .ok (.ireturn, 1) := by decide +kernel
set_option maxRecDepth 20000 in
theorem ggX1_flood_X1_widestNeck : GoodIn wsX1_flood wsX1_widestNeck := goodIn_r _ [5, 6, 7, 8, 9, 4, 10, 11, 12, 13, 14, 15, 16, 17, 18, 19, 20, 21, 22, 23, 24, 25, 26, 27, 28, 29, 63, 64, 65, 66, 67, 68, 69, 70, 71, 72, 73, 74, 75, 76] (by decide +kernel) (by decide +kernel)
set_option maxRecDepth 20000 in
theorem gX1_flood_X1_widestNeck : GoodIn wsX1_flood (wsV RX1 131 RX1 yX1_widestNeck wsX1_widestNeck) := goodIn_app (goodIn_of _ (by decide +kernel)) ggX1_flood_X1_widestNeck
set_option maxRecDepth 20000 in
theorem ggX1_flood_X1_farthestAcross : GoodIn wsX1_flood wsX1_farthestAcross := goodIn_r _ [10, 11, 12, 13, 4, 14, 15, 16, 17, 18, 19, 6, 20, 21, 22, 23, 24, 25, 26, 27, 28, 29, 63, 64, 65, 66, 67, 68, 69, 70, 71, 72, 73, 74, 75, 76] (by decide +kernel) (by decide +kernel)
set_option maxRecDepth 20000 in
theorem gX1_flood_X1_farthestAcross : GoodIn wsX1_flood (wsV RX1 109 RX1 yX1_farthestAcross wsX1_farthestAcross) := goodIn_app (goodIn_of _ (by decide +kernel)) ggX1_flood_X1_farthestAcross
set_option maxRecDepth 20000 in
theorem ggX1_flood_X1_breakThrough : GoodIn wsX1_flood wsX1_breakThrough := goodIn_r _ [33, 27, 34, 35, 15, 6, 36, 37, 38, 39, 40, 41, 42, 43, 4, 44, 16, 17, 18, 19, 45, 21, 46, 47, 20, 22, 11, 12, 13, 14, 28, 29, 48, 49, 50, 51, 52, 53, 54, 55, 56, 57, 58, 59, 60, 61, 62, 63, 64, 65, 66, 67, 68, 69, 70, 71, 72, 73, 74, 75, 76] (by decide +kernel) (by decide +kernel)
set_option maxRecDepth 20000 in
theorem gX1_flood_X1_breakThrough : GoodIn wsX1_flood (wsV RX1 135 RX1 yX1_breakThrough wsX1_breakThrough) := goodIn_app (goodIn_of _ (by decide +kernel)) ggX1_flood_X1_breakThrough
theorem dX1_flood_0 : decode cX1_flood 0 = .ok (.iconst 0, 1) := by decide +kernel
theorem dX1_flood_1 : decode cX1_flood 1 = .ok (.istore_n 1, 1) := by decide +kernel
theorem dX1_flood_2 : decode cX1_flood 2 = .ok (.iload_n 1, 1) := by decide +kernel
theorem dX1_flood_3 : decode cX1_flood 3 = .ok (.sipush 150, 3) := by decide +kernel
theorem dX1_flood_6 : decode cX1_flood 6 = .ok (.if_icmp .ge 30, 3) := by decide +kernel
theorem dX1_flood_9 : decode cX1_flood 9 = .ok (.aload_n 0, 1) := by decide +kernel
theorem dX1_flood_10 : decode cX1_flood 10 = .ok (.invokevirtual 131, 3) := by decide +kernel
theorem dX1_flood_13 : decode cX1_flood 13 = .ok (.istore_n 2, 1) := by decide +kernel
theorem dX1_flood_14 : decode cX1_flood 14 = .ok (.iload_n 2, 1) := by decide +kernel
theorem dX1_flood_15 : decode cX1_flood 15 = .ok (.iconst (-1), 1) := by decide +kernel
theorem dX1_flood_16 : decode cX1_flood 16 = .ok (.if_icmp .ne 4, 3) := by decide +kernel
theorem dX1_flood_19 : decode cX1_flood 19 = .ok (.return_, 1) := by decide +kernel
theorem dX1_flood_20 : decode cX1_flood 20 = .ok (.aload_n 0, 1) := by decide +kernel
theorem dX1_flood_21 : decode cX1_flood 21 = .ok (.iload_n 2, 1) := by decide +kernel
theorem dX1_flood_22 : decode cX1_flood 22 = .ok (.aload_n 0, 1) := by decide +kernel
theorem dX1_flood_23 : decode cX1_flood 23 = .ok (.iload_n 2, 1) := by decide +kernel
theorem dX1_flood_24 : decode cX1_flood 24 = .ok (.invokevirtual 109, 3) := by decide +kernel
theorem dX1_flood_27 : decode cX1_flood 27 = .ok (.invokevirtual 135, 3) := by decide +kernel
theorem dX1_flood_30 : decode cX1_flood 30 = .ok (.iinc 1 1, 3) := by decide +kernel
theorem dX1_flood_33 : decode cX1_flood 33 = .ok (.goto (-31), 3) := by decide +kernel
theorem dX1_flood_36 : decode cX1_flood 36 = .ok (.return_, 1) := by decide +kernel
set_option maxRecDepth 20000 in
theorem ggX1_lakeYearsLeft_X2_isCell : GoodIn wsX1_lakeYearsLeft wsX2_isCell := goodIn_r _ [9] (by decide +kernel) (by decide +kernel)
set_option maxRecDepth 20000 in
theorem gX1_lakeYearsLeft_X2_isCell_n70 : GoodIn wsX1_lakeYearsLeft (wsX2_isCell) := ggX1_lakeYearsLeft_X2_isCell
theorem dX1_lakeYearsLeft_0 : decode cX1_lakeYearsLeft 0 = .ok (.iload_n 1, 1) := by decide +kernel
theorem dX1_lakeYearsLeft_1 : decode cX1_lakeYearsLeft 1 = .ok (.invokestatic 70, 3) := by decide +kernel
theorem dX1_lakeYearsLeft_4 : decode cX1_lakeYearsLeft 4 = .ok (.ifCond .eq 21, 3) := by decide +kernel
theorem dX1_lakeYearsLeft_7 : decode cX1_lakeYearsLeft 7 = .ok (.iconst 0, 1) := by decide +kernel
theorem dX1_lakeYearsLeft_8 : decode cX1_lakeYearsLeft 8 = .ok (.aload_n 0, 1) := by decide +kernel
theorem dX1_lakeYearsLeft_9 : decode cX1_lakeYearsLeft 9 = .ok (.getfield 22, 3) := by decide +kernel
theorem dX1_lakeYearsLeft_12 : decode cX1_lakeYearsLeft 12 = .ok (.iload_n 1, 1) := by decide +kernel
theorem dX1_lakeYearsLeft_13 : decode cX1_lakeYearsLeft 13 = .ok (.iaload, 1) := by decide +kernel
theorem dX1_lakeYearsLeft_14 : decode cX1_lakeYearsLeft 14 = .ok (.aload_n 0, 1) := by decide +kernel
theorem dX1_lakeYearsLeft_15 : decode cX1_lakeYearsLeft 15 = .ok (.getfield 60, 3) := by decide +kernel
theorem dX1_lakeYearsLeft_18 : decode cX1_lakeYearsLeft 18 = .ok (.isub, 1) := by decide +kernel
theorem dX1_lakeYearsLeft_19 : decode cX1_lakeYearsLeft 19 = .ok (.invokestatic 73, 3) := by decide +kernel
theorem dX1_lakeYearsLeft_22 : decode cX1_lakeYearsLeft 22 = .ok (.goto 4, 3) := by decide +kernel
theorem dX1_lakeYearsLeft_25 : decode cX1_lakeYearsLeft 25 = .ok (.iconst 0, 1) := by decide +kernel
theorem dX1_lakeYearsLeft_26 : decode cX1_lakeYearsLeft 26 = .ok (.ireturn, 1) := by decide +kernel
theorem dX1_lakes_0 : decode cX1_lakes 0 = .ok (.iconst 0, 1) := by decide +kernel
theorem dX1_lakes_1 : decode cX1_lakes 1 = .ok (.istore_n 1, 1) := by decide +kernel
theorem dX1_lakes_2 : decode cX1_lakes 2 = .ok (.iconst 0, 1) := by decide +kernel
theorem dX1_lakes_3 : decode cX1_lakes 3 = .ok (.istore_n 2, 1) := by decide +kernel
theorem dX1_lakes_4 : decode cX1_lakes 4 = .ok (.iload_n 2, 1) := by decide +kernel
theorem dX1_lakes_5 : decode cX1_lakes 5 = .ok (.sipush 384, 3) := by decide +kernel
theorem dX1_lakes_8 : decode cX1_lakes 8 = .ok (.if_icmp .ge 25, 3) := by decide +kernel
theorem dX1_lakes_11 : decode cX1_lakes 11 = .ok (.aload_n 0, 1) := by decide +kernel
theorem dX1_lakes_12 : decode cX1_lakes 12 = .ok (.getfield 22, 3) := by decide +kernel
theorem dX1_lakes_15 : decode cX1_lakes 15 = .ok (.iload_n 2, 1) := by decide +kernel
theorem dX1_lakes_16 : decode cX1_lakes 16 = .ok (.iaload, 1) := by decide +kernel
theorem dX1_lakes_17 : decode cX1_lakes 17 = .ok (.aload_n 0, 1) := by decide +kernel
theorem dX1_lakes_18 : decode cX1_lakes 18 = .ok (.getfield 60, 3) := by decide +kernel
theorem dX1_lakes_21 : decode cX1_lakes 21 = .ok (.if_icmp .le 6, 3) := by decide +kernel
theorem dX1_lakes_24 : decode cX1_lakes 24 = .ok (.iinc 1 1, 3) := by decide +kernel
theorem dX1_lakes_27 : decode cX1_lakes 27 = .ok (.iinc 2 1, 3) := by decide +kernel
theorem dX1_lakes_30 : decode cX1_lakes 30 = .ok (.goto (-26), 3) := by decide +kernel
theorem dX1_lakes_33 : decode cX1_lakes 33 = .ok (.iload_n 1, 1) := by decide +kernel
theorem dX1_lakes_34 : decode cX1_lakes 34 = .ok (.ireturn, 1) := by decide +kernel
theorem dX1_cellsWithStones_0 : decode cX1_cellsWithStones 0 = .ok (.iconst 0, 1) := by decide +kernel
theorem dX1_cellsWithStones_1 : decode cX1_cellsWithStones 1 = .ok (.istore_n 1, 1) := by decide +kernel
theorem dX1_cellsWithStones_2 : decode cX1_cellsWithStones 2 = .ok (.iconst 0, 1) := by decide +kernel
theorem dX1_cellsWithStones_3 : decode cX1_cellsWithStones 3 = .ok (.istore_n 2, 1) := by decide +kernel
theorem dX1_cellsWithStones_4 : decode cX1_cellsWithStones 4 = .ok (.iload_n 2, 1) := by decide +kernel
theorem dX1_cellsWithStones_5 : decode cX1_cellsWithStones 5 = .ok (.sipush 384, 3) := by decide +kernel
theorem dX1_cellsWithStones_8 : decode cX1_cellsWithStones 8 = .ok (.if_icmp .ge 21, 3) := by decide +kernel
theorem dX1_cellsWithStones_11 : decode cX1_cellsWithStones 11 = .ok (.aload_n 0, 1) := by decide +kernel
theorem dX1_cellsWithStones_12 : decode cX1_cellsWithStones 12 = .ok (.getfield 18, 3) := by decide +kernel
theorem dX1_cellsWithStones_15 : decode cX1_cellsWithStones 15 = .ok (.iload_n 2, 1) := by decide +kernel
theorem dX1_cellsWithStones_16 : decode cX1_cellsWithStones 16 = .ok (.baload, 1) := by decide +kernel
theorem dX1_cellsWithStones_17 : decode cX1_cellsWithStones 17 = .ok (.ifCond .eq 6, 3) := by decide +kernel
theorem dX1_cellsWithStones_20 : decode cX1_cellsWithStones 20 = .ok (.iinc 1 1, 3) := by decide +kernel
theorem dX1_cellsWithStones_23 : decode cX1_cellsWithStones 23 = .ok (.iinc 2 1, 3) := by decide +kernel
theorem dX1_cellsWithStones_26 : decode cX1_cellsWithStones 26 = .ok (.goto (-22), 3) := by decide +kernel
theorem dX1_cellsWithStones_29 : decode cX1_cellsWithStones 29 = .ok (.iload_n 1, 1) := by decide +kernel
theorem dX1_cellsWithStones_30 : decode cX1_cellsWithStones 30 = .ok (.ireturn, 1) := by decide +kernel
set_option maxRecDepth 20000 in
theorem ggX1_bends_X1_isStraight : GoodIn wsX1_bends wsX1_isStraight := goodIn_r _ [6, 1, 7, 8, 9, 10, 5, 11, 12, 13, 14, 15, 16, 17, 18, 19, 20, 21, 22, 23, 24, 25] (by decide +kernel) (by decide +kernel)
set_option maxRecDepth 20000 in
theorem gX1_bends_X1_isStraight : GoodIn wsX1_bends (wsV RX1 92 RX1 yX1_isStraight wsX1_isStraight) := goodIn_app (goodIn_of _ (by decide +kernel)) ggX1_bends_X1_isStraight
theorem dX1_bends_0 : decode cX1_bends 0 = .ok (.iconst 0, 1) := by decide +kernel
theorem dX1_bends_1 : decode cX1_bends 1 = .ok (.istore_n 1, 1) := by decide +kernel
theorem dX1_bends_2 : decode cX1_bends 2 = .ok (.iconst 1, 1) := by decide +kernel
theorem dX1_bends_3 : decode cX1_bends 3 = .ok (.istore_n 2, 1) := by decide +kernel
theorem dX1_bends_4 : decode cX1_bends 4 = .ok (.iload_n 2, 1) := by decide +kernel
theorem dX1_bends_5 : decode cX1_bends 5 = .ok (.aload_n 0, 1) := by decide +kernel
theorem dX1_bends_6 : decode cX1_bends 6 = .ok (.getfield 46, 3) := by decide +kernel
theorem dX1_bends_9 : decode cX1_bends 9 = .ok (.iconst 1, 1) := by decide +kernel
theorem dX1_bends_10 : decode cX1_bends 10 = .ok (.isub, 1) := by decide +kernel
theorem dX1_bends_11 : decode cX1_bends 11 = .ok (.if_icmp .ge 20, 3) := by decide +kernel
theorem dX1_bends_14 : decode cX1_bends 14 = .ok (.aload_n 0, 1) := by decide +kernel
theorem dX1_bends_15 : decode cX1_bends 15 = .ok (.iload_n 2, 1) := by decide +kernel
theorem dX1_bends_16 : decode cX1_bends 16 = .ok (.invokevirtual 92, 3) := by decide +kernel
theorem dX1_bends_19 : decode cX1_bends 19 = .ok (.ifCond .ne 6, 3) := by decide +kernel
theorem dX1_bends_22 : decode cX1_bends 22 = .ok (.iinc 1 1, 3) := by decide +kernel
theorem dX1_bends_25 : decode cX1_bends 25 = .ok (.iinc 2 1, 3) := by decide +kernel
theorem dX1_bends_28 : decode cX1_bends 28 = .ok (.goto (-24), 3) := by decide +kernel
theorem dX1_bends_31 : decode cX1_bends 31 = .ok (.iload_n 1, 1) := by decide +kernel
theorem dX1_bends_32 : decode cX1_bends 32 = .ok (.ireturn, 1) := by decide +kernel
theorem dX1_allWear_0 : decode cX1_allWear 0 = .ok (.iconst 0, 1) := by decide +kernel
theorem dX1_allWear_1 : decode cX1_allWear 1 = .ok (.istore_n 1, 1) := by decide +kernel
theorem dX1_allWear_2 : decode cX1_allWear 2 = .ok (.iconst 0, 1) := by decide +kernel
theorem dX1_allWear_3 : decode cX1_allWear 3 = .ok (.istore_n 2, 1) := by decide +kernel
theorem dX1_allWear_4 : decode cX1_allWear 4 = .ok (.iload_n 2, 1) := by decide +kernel
theorem dX1_allWear_5 : decode cX1_allWear 5 = .ok (.sipush 384, 3) := by decide +kernel
theorem dX1_allWear_8 : decode cX1_allWear 8 = .ok (.if_icmp .ge 18, 3) := by decide +kernel
theorem dX1_allWear_11 : decode cX1_allWear 11 = .ok (.iload_n 1, 1) := by decide +kernel
theorem dX1_allWear_12 : decode cX1_allWear 12 = .ok (.aload_n 0, 1) := by decide +kernel
theorem dX1_allWear_13 : decode cX1_allWear 13 = .ok (.getfield 15, 3) := by decide +kernel
theorem dX1_allWear_16 : decode cX1_allWear 16 = .ok (.iload_n 2, 1) := by decide +kernel
theorem dX1_allWear_17 : decode cX1_allWear 17 = .ok (.iaload, 1) := by decide +kernel
theorem dX1_allWear_18 : decode cX1_allWear 18 = .ok (.iadd, 1) := by decide +kernel
theorem dX1_allWear_19 : decode cX1_allWear 19 = .ok (.istore_n 1, 1) := by decide +kernel
theorem dX1_allWear_20 : decode cX1_allWear 20 = .ok (.iinc 2 1, 3) := by decide +kernel
theorem dX1_allWear_23 : decode cX1_allWear 23 = .ok (.goto (-19), 3) := by decide +kernel
theorem dX1_allWear_26 : decode cX1_allWear 26 = .ok (.iload_n 1, 1) := by decide +kernel
theorem dX1_allWear_27 : decode cX1_allWear 27 = .ok (.ireturn, 1) := by decide +kernel
set_option maxRecDepth 20000 in
theorem ggX2_init_X1_init : GoodIn wsX2_init wsX1_init := goodIn_r _ [16, 17, 2, 3, 18, 19, 20, 4, 21, 22, 23, 24, 25, 26, 27, 28, 29, 30, 31, 32, 33, 8, 34, 35, 36, 37, 38, 39, 40, 41, 42, 43, 44, 45, 46, 47, 48, 49, 50, 51, 52, 53, 54, 55, 56, 57, 58, 70, 71, 72, 73, 74, 75, 76, 77, 78, 79, 80, 81, 82, 83] (by decide +kernel) (by decide +kernel)
set_option maxRecDepth 20000 in
theorem gX2_init_X1_init_n15 : GoodIn wsX2_init (wsX1_init) := ggX2_init_X1_init
set_option maxRecDepth 20000 in
theorem ggX2_init_X0_init : GoodIn wsX2_init wsX0_init := goodIn_r _ [60, 61, 2, 3, 18, 62, 63, 64, 65, 84, 85, 86, 87, 88] (by decide +kernel) (by decide +kernel)
set_option maxRecDepth 20000 in
theorem gX2_init_X0_init_n25 : GoodIn wsX2_init (wsX0_init) := ggX2_init_X0_init
