theorem dX2_init_0 : decode cX2_init 0 = .ok (.aload_n 0, 1) := by decide +kernel
theorem dX2_init_1 : decode cX2_init 1 = .ok (.invokespecial 3, 3) := by decide +kernel
theorem dX2_init_4 : decode cX2_init 4 = .ok (.aload_n 0, 1) := by decide +kernel
theorem dX2_init_5 : decode cX2_init 5 = .ok (.sipush 384, 3) := by decide +kernel
theorem dX2_init_8 : decode cX2_init 8 = .ok (.newarray .boolean, 2) := by decide +kernel
theorem dX2_init_10 : decode cX2_init 10 = .ok (.putfield 9, 3) := by decide +kernel
theorem dX2_init_13 : decode cX2_init 13 = .ok (.aload_n 0, 1) := by decide +kernel
theorem dX2_init_14 : decode cX2_init 14 = .ok (.new 13, 3) := by decide +kernel
theorem dX2_init_17 : decode cX2_init 17 = .ok (.dup, 1) := by decide +kernel
theorem dX2_init_18 : decode cX2_init 18 = .ok (.invokespecial 15, 3) := by decide +kernel
theorem dX2_init_21 : decode cX2_init 21 = .ok (.putfield 16, 3) := by decide +kernel
theorem dX2_init_24 : decode cX2_init 24 = .ok (.aload_n 0, 1) := by decide +kernel
theorem dX2_init_25 : decode cX2_init 25 = .ok (.new 13, 3) := by decide +kernel
theorem dX2_init_28 : decode cX2_init 28 = .ok (.dup, 1) := by decide +kernel
theorem dX2_init_29 : decode cX2_init 29 = .ok (.invokespecial 15, 3) := by decide +kernel
theorem dX2_init_32 : decode cX2_init 32 = .ok (.putfield 20, 3) := by decide +kernel
theorem dX2_init_35 : decode cX2_init 35 = .ok (.aload_n 0, 1) := by decide +kernel
theorem dX2_init_36 : decode cX2_init 36 = .ok (.new 23, 3) := by decide +kernel
theorem dX2_init_39 : decode cX2_init 39 = .ok (.dup, 1) := by decide +kernel
theorem dX2_init_40 : decode cX2_init 40 = .ok (.invokespecial 25, 3) := by decide +kernel
theorem dX2_init_43 : decode cX2_init 43 = .ok (.putfield 26, 3) := by decide +kernel
theorem dX2_init_46 : decode cX2_init 46 = .ok (.return_, 1) := by decide +kernel
set_option maxRecDepth 20000 in
theorem ggX2_setHardness_X2_cellNumber : GoodIn wsX2_setHardness wsX2_cellNumber := goodIn_r _ [9] (by decide +kernel) (by decide +kernel)
set_option maxRecDepth 20000 in
theorem gX2_setHardness_X2_cellNumber : GoodIn wsX2_setHardness (va_wsS RX2 30 yX2_cellNumber wsX2_cellNumber) := goodIn_app (goodIn_of _ (by decide +kernel)) ggX2_setHardness_X2_cellNumber
set_option maxRecDepth 20000 in
theorem ggX2_setHardness_X2_isCell : GoodIn wsX2_setHardness wsX2_isCell := goodIn_r _ [12] (by decide +kernel) (by decide +kernel)
set_option maxRecDepth 20000 in
theorem gX2_setHardness_X2_isCell : GoodIn wsX2_setHardness (va_wsS RX2 34 yX2_isCell wsX2_isCell) := goodIn_app (goodIn_of _ (by decide +kernel)) ggX2_setHardness_X2_isCell
set_option maxRecDepth 20000 in
theorem ggX2_setHardness_X2_isGrade : GoodIn wsX2_setHardness wsX2_isGrade := goodIn_r _ [15] (by decide +kernel) (by decide +kernel)
set_option maxRecDepth 20000 in
theorem gX2_setHardness_X2_isGrade : GoodIn wsX2_setHardness (va_wsS RX2 45 yX2_isGrade wsX2_isGrade) := goodIn_app (goodIn_of _ (by decide +kernel)) ggX2_setHardness_X2_isGrade
theorem dX2_setHardness_0 : decode cX2_setHardness 0 = .ok (.iload_n 1, 1) := by decide +kernel
theorem dX2_setHardness_1 : decode cX2_setHardness 1 = .ok (.iload_n 2, 1) := by decide +kernel
theorem dX2_setHardness_2 : decode cX2_setHardness 2 = .ok (.invokestatic 30, 3) := by decide +kernel
theorem dX2_setHardness_5 : decode cX2_setHardness 5 = .ok (.istore 4, 2) := by decide +kernel
theorem dX2_setHardness_7 : decode cX2_setHardness 7 = .ok (.iload 4, 2) := by decide +kernel
theorem dX2_setHardness_9 : decode cX2_setHardness 9 = .ok (.invokestatic 34, 3) := by decide +kernel
theorem dX2_setHardness_12 : decode cX2_setHardness 12 = .ok (.ifCond .ne 13, 3) := by decide +kernel
theorem dX2_setHardness_15 : decode cX2_setHardness 15 = .ok (.new 38, 3) := by decide +kernel
theorem dX2_setHardness_18 : decode cX2_setHardness 18 = .ok (.dup, 1) := by decide +kernel
theorem dX2_setHardness_19 : decode cX2_setHardness 19 = .ok (.ldc 40, 2) := by decide +kernel
theorem dX2_setHardness_21 : decode cX2_setHardness 21 = .ok (.invokespecial 42, 3) := by decide +kernel
theorem dX2_setHardness_24 : decode cX2_setHardness 24 = .ok (.athrow, 1) := by decide +kernel
theorem dX2_setHardness_25 : decode cX2_setHardness 25 = .ok (.iload_n 3, 1) := by decide +kernel
theorem dX2_setHardness_26 : decode cX2_setHardness 26 = .ok (.invokestatic 45, 3) := by decide +kernel
theorem dX2_setHardness_29 : decode cX2_setHardness 29 = .ok (.ifCond .ne 13, 3) := by decide +kernel
theorem dX2_setHardness_32 : decode cX2_setHardness 32 = .ok (.new 48, 3) := by decide +kernel
theorem dX2_setHardness_35 : decode cX2_setHardness 35 = .ok (.dup, 1) := by decide +kernel
theorem dX2_setHardness_36 : decode cX2_setHardness 36 = .ok (.ldc 50, 2) := by decide +kernel
theorem dX2_setHardness_38 : decode cX2_setHardness 38 = .ok (.invokespecial 52, 3) := by decide +kernel
theorem dX2_setHardness_41 : decode cX2_setHardness 41 = .ok (.athrow, 1) := by decide +kernel
theorem dX2_setHardness_42 : decode cX2_setHardness 42 = .ok (.aload_n 0, 1) := by decide +kernel
theorem dX2_setHardness_43 : decode cX2_setHardness 43 = .ok (.getfield 16, 3) := by decide +kernel
theorem dX2_setHardness_46 : decode cX2_setHardness 46 = .ok (.getfield 53, 3) := by decide +kernel
theorem dX2_setHardness_49 : decode cX2_setHardness 49 = .ok (.iload 4, 2) := by decide +kernel
theorem dX2_setHardness_51 : decode cX2_setHardness 51 = .ok (.iaload, 1) := by decide +kernel
theorem dX2_setHardness_52 : decode cX2_setHardness 52 = .ok (.istore 5, 2) := by decide +kernel
theorem dX2_setHardness_54 : decode cX2_setHardness 54 = .ok (.aload_n 0, 1) := by decide +kernel
theorem dX2_setHardness_55 : decode cX2_setHardness 55 = .ok (.getfield 16, 3) := by decide +kernel
theorem dX2_setHardness_58 : decode cX2_setHardness 58 = .ok (.getfield 53, 3) := by decide +kernel
theorem dX2_setHardness_61 : decode cX2_setHardness 61 = .ok (.iload 4, 2) := by decide +kernel
theorem dX2_setHardness_63 : decode cX2_setHardness 63 = .ok (.iload_n 3, 1) := by decide +kernel
theorem dX2_setHardness_64 : decode cX2_setHardness 64 = .ok (.iastore, 1) := by decide +kernel
theorem dX2_setHardness_65 : decode cX2_setHardness 65 = .ok (.iload 5, 2) := by decide +kernel
theorem dX2_setHardness_67 : decode cX2_setHardness 67 = .ok (.ireturn, 1) := by decide +kernel
set_option maxRecDepth 20000 in
theorem ggX2_setStones_X2_cellNumber : GoodIn wsX2_setStones wsX2_cellNumber := goodIn_r _ [7] (by decide +kernel) (by decide +kernel)
set_option maxRecDepth 20000 in
theorem gX2_setStones_X2_cellNumber : GoodIn wsX2_setStones (va_wsS RX2 30 yX2_cellNumber wsX2_cellNumber) := goodIn_app (goodIn_of _ (by decide +kernel)) ggX2_setStones_X2_cellNumber
set_option maxRecDepth 20000 in
theorem ggX2_setStones_X2_isCell : GoodIn wsX2_setStones wsX2_isCell := goodIn_r _ [10] (by decide +kernel) (by decide +kernel)
set_option maxRecDepth 20000 in
theorem gX2_setStones_X2_isCell : GoodIn wsX2_setStones (va_wsS RX2 34 yX2_isCell wsX2_isCell) := goodIn_app (goodIn_of _ (by decide +kernel)) ggX2_setStones_X2_isCell
set_option maxRecDepth 20000 in
theorem ggX2_setStones_X1_cellsWithStones : GoodIn wsX2_setStones wsX1_cellsWithStones := goodIn_r _ [14, 15, 20, 21, 22, 23, 24, 25, 26, 27, 28, 29, 30, 31, 32, 33] (by decide +kernel) (by decide +kernel)
set_option maxRecDepth 20000 in
theorem gX2_setStones_X1_cellsWithStones_n60 : GoodIn wsX2_setStones (wsX1_cellsWithStones) := ggX2_setStones_X1_cellsWithStones
theorem dX2_setStones_0 : decode cX2_setStones 0 = .ok (.iload_n 1, 1) := by decide +kernel
theorem dX2_setStones_1 : decode cX2_setStones 1 = .ok (.iload_n 2, 1) := by decide +kernel
theorem dX2_setStones_2 : decode cX2_setStones 2 = .ok (.invokestatic 30, 3) := by decide +kernel
theorem dX2_setStones_5 : decode cX2_setStones 5 = .ok (.istore 4, 2) := by decide +kernel
theorem dX2_setStones_7 : decode cX2_setStones 7 = .ok (.iload 4, 2) := by decide +kernel
theorem dX2_setStones_9 : decode cX2_setStones 9 = .ok (.invokestatic 34, 3) := by decide +kernel
theorem dX2_setStones_12 : decode cX2_setStones 12 = .ok (.ifCond .ne 13, 3) := by decide +kernel
theorem dX2_setStones_15 : decode cX2_setStones 15 = .ok (.new 38, 3) := by decide +kernel
theorem dX2_setStones_18 : decode cX2_setStones 18 = .ok (.dup, 1) := by decide +kernel
theorem dX2_setStones_19 : decode cX2_setStones 19 = .ok (.ldc 40, 2) := by decide +kernel
theorem dX2_setStones_21 : decode cX2_setStones 21 = .ok (.invokespecial 42, 3) := by decide +kernel
theorem dX2_setStones_24 : decode cX2_setStones 24 = .ok (.athrow, 1) := by decide +kernel
theorem dX2_setStones_25 : decode cX2_setStones 25 = .ok (.aload_n 0, 1) := by decide +kernel
theorem dX2_setStones_26 : decode cX2_setStones 26 = .ok (.getfield 16, 3) := by decide +kernel
theorem dX2_setStones_29 : decode cX2_setStones 29 = .ok (.getfield 57, 3) := by decide +kernel
theorem dX2_setStones_32 : decode cX2_setStones 32 = .ok (.iload 4, 2) := by decide +kernel
theorem dX2_setStones_34 : decode cX2_setStones 34 = .ok (.iload_n 3, 1) := by decide +kernel
theorem dX2_setStones_35 : decode cX2_setStones 35 = .ok (.bastore, 1) := by decide +kernel
theorem dX2_setStones_36 : decode cX2_setStones 36 = .ok (.aload_n 0, 1) := by decide +kernel
theorem dX2_setStones_37 : decode cX2_setStones 37 = .ok (.getfield 16, 3) := by decide +kernel
theorem dX2_setStones_40 : decode cX2_setStones 40 = .ok (.invokevirtual 60, 3) := by decide +kernel
theorem dX2_setStones_43 : decode cX2_setStones 43 = .ok (.ireturn, 1) := by decide +kernel
set_option maxRecDepth 20000 in
theorem ggX2_setFlow_X2_isGrade : GoodIn wsX2_setFlow wsX2_isGrade := goodIn_r _ [9] (by decide +kernel) (by decide +kernel)
set_option maxRecDepth 20000 in
theorem gX2_setFlow_X2_isGrade : GoodIn wsX2_setFlow (va_wsS RX2 45 yX2_isGrade wsX2_isGrade) := goodIn_app (goodIn_of _ (by decide +kernel)) ggX2_setFlow_X2_isGrade
theorem dX2_setFlow_0 : decode cX2_setFlow 0 = .ok (.iload_n 1, 1) := by decide +kernel
theorem dX2_setFlow_1 : decode cX2_setFlow 1 = .ok (.ifCond .lt 9, 3) := by decide +kernel
theorem dX2_setFlow_4 : decode cX2_setFlow 4 = .ok (.iload_n 1, 1) := by decide +kernel
theorem dX2_setFlow_5 : decode cX2_setFlow 5 = .ok (.bipush 12, 2) := by decide +kernel
theorem dX2_setFlow_7 : decode cX2_setFlow 7 = .ok (.if_icmp .lt 13, 3) := by decide +kernel
theorem dX2_setFlow_10 : decode cX2_setFlow 10 = .ok (.new 38, 3) := by decide +kernel
theorem dX2_setFlow_13 : decode cX2_setFlow 13 = .ok (.dup, 1) := by decide +kernel
theorem dX2_setFlow_14 : decode cX2_setFlow 14 = .ok (.ldc 64, 2) := by decide +kernel
theorem dX2_setFlow_16 : decode cX2_setFlow 16 = .ok (.invokespecial 42, 3) := by decide +kernel
theorem dX2_setFlow_19 : decode cX2_setFlow 19 = .ok (.athrow, 1) := by decide +kernel
theorem dX2_setFlow_20 : decode cX2_setFlow 20 = .ok (.iload_n 2, 1) := by decide +kernel
theorem dX2_setFlow_21 : decode cX2_setFlow 21 = .ok (.invokestatic 45, 3) := by decide +kernel
theorem dX2_setFlow_24 : decode cX2_setFlow 24 = .ok (.ifCond .ne 13, 3) := by decide +kernel
theorem dX2_setFlow_27 : decode cX2_setFlow 27 = .ok (.new 48, 3) := by decide +kernel
theorem dX2_setFlow_30 : decode cX2_setFlow 30 = .ok (.dup, 1) := by decide +kernel
theorem dX2_setFlow_31 : decode cX2_setFlow 31 = .ok (.ldc 66, 2) := by decide +kernel
theorem dX2_setFlow_33 : decode cX2_setFlow 33 = .ok (.invokespecial 52, 3) := by decide +kernel
theorem dX2_setFlow_36 : decode cX2_setFlow 36 = .ok (.athrow, 1) := by decide +kernel
theorem dX2_setFlow_37 : decode cX2_setFlow 37 = .ok (.aload_n 0, 1) := by decide +kernel
theorem dX2_setFlow_38 : decode cX2_setFlow 38 = .ok (.getfield 16, 3) := by decide +kernel
theorem dX2_setFlow_41 : decode cX2_setFlow 41 = .ok (.getfield 68, 3) := by decide +kernel
theorem dX2_setFlow_44 : decode cX2_setFlow 44 = .ok (.iload_n 1, 1) := by decide +kernel
theorem dX2_setFlow_45 : decode cX2_setFlow 45 = .ok (.iaload, 1) := by decide +kernel
theorem dX2_setFlow_46 : decode cX2_setFlow 46 = .ok (.istore_n 3, 1) := by decide +kernel
theorem dX2_setFlow_47 : decode cX2_setFlow 47 = .ok (.aload_n 0, 1) := by decide +kernel
theorem dX2_setFlow_48 : decode cX2_setFlow 48 = .ok (.getfield 16, 3) := by decide +kernel
theorem dX2_setFlow_51 : decode cX2_setFlow 51 = .ok (.getfield 68, 3) := by decide +kernel
theorem dX2_setFlow_54 : decode cX2_setFlow 54 = .ok (.iload_n 1, 1) := by decide +kernel
theorem dX2_setFlow_55 : decode cX2_setFlow 55 = .ok (.iload_n 2, 1) := by decide +kernel
theorem dX2_setFlow_56 : decode cX2_setFlow 56 = .ok (.iastore, 1) := by decide +kernel
theorem dX2_setFlow_57 : decode cX2_setFlow 57 = .ok (.iload_n 3, 1) := by decide +kernel
theorem dX2_setFlow_58 : decode cX2_setFlow 58 = .ok (.ireturn, 1) := by decide +kernel
set_option maxRecDepth 20000 in
theorem ggX2_cell_X2_cellNumber : GoodIn wsX2_cell wsX2_cellNumber := goodIn_r _ [8] (by decide +kernel) (by decide +kernel)
set_option maxRecDepth 20000 in
theorem gX2_cell_X2_cellNumber : GoodIn wsX2_cell (va_wsS RX2 30 yX2_cellNumber wsX2_cellNumber) := goodIn_app (goodIn_of _ (by decide +kernel)) ggX2_cell_X2_cellNumber
set_option maxRecDepth 20000 in
theorem ggX2_cell_X2_isCell : GoodIn wsX2_cell wsX2_isCell := goodIn_r _ [11] (by decide +kernel) (by decide +kernel)
set_option maxRecDepth 20000 in
theorem gX2_cell_X2_isCell : GoodIn wsX2_cell (va_wsS RX2 34 yX2_isCell wsX2_isCell) := goodIn_app (goodIn_of _ (by decide +kernel)) ggX2_cell_X2_isCell
set_option maxRecDepth 20000 in
theorem ggX2_cell_X1_lakeYearsLeft : GoodIn wsX2_cell wsX1_lakeYearsLeft := goodIn_r _ [15, 16, 17, 18, 19, 20, 21, 10, 7, 11, 35, 36, 37, 38, 39, 40, 41, 42, 43, 44, 45, 46, 47, 48] (by decide +kernel) (by decide +kernel)
set_option maxRecDepth 20000 in
theorem gX2_cell_X1_lakeYearsLeft_n77 : GoodIn wsX2_cell (wsX1_lakeYearsLeft) := ggX2_cell_X1_lakeYearsLeft
set_option maxRecDepth 20000 in
theorem ggX2_cell_X0_farmsAt : GoodIn wsX2_cell wsX0_farmsAt := goodIn_r _ [25, 26, 27, 28, 29, 30, 49, 50, 51, 52, 53] (by decide +kernel) (by decide +kernel)
set_option maxRecDepth 20000 in
theorem gX2_cell_X0_farmsAt_n81 : GoodIn wsX2_cell (wsX0_farmsAt) := ggX2_cell_X0_farmsAt
theorem dX2_cell_0 : decode cX2_cell 0 = .ok (.iload_n 1, 1) := by decide +kernel
theorem dX2_cell_1 : decode cX2_cell 1 = .ok (.iload_n 2, 1) := by decide +kernel
theorem dX2_cell_2 : decode cX2_cell 2 = .ok (.invokestatic 30, 3) := by decide +kernel
theorem dX2_cell_5 : decode cX2_cell 5 = .ok (.istore 4, 2) := by decide +kernel
theorem dX2_cell_7 : decode cX2_cell 7 = .ok (.iload 4, 2) := by decide +kernel
theorem dX2_cell_9 : decode cX2_cell 9 = .ok (.invokestatic 34, 3) := by decide +kernel
theorem dX2_cell_12 : decode cX2_cell 12 = .ok (.ifCond .ne 13, 3) := by decide +kernel
theorem dX2_cell_15 : decode cX2_cell 15 = .ok (.new 38, 3) := by decide +kernel
theorem dX2_cell_18 : decode cX2_cell 18 = .ok (.dup, 1) := by decide +kernel
theorem dX2_cell_19 : decode cX2_cell 19 = .ok (.ldc 40, 2) := by decide +kernel
theorem dX2_cell_21 : decode cX2_cell 21 = .ok (.invokespecial 42, 3) := by decide +kernel
theorem dX2_cell_24 : decode cX2_cell 24 = .ok (.athrow, 1) := by decide +kernel
theorem dX2_cell_25 : decode cX2_cell 25 = .ok (.iload_n 3, 1) := by decide +kernel
theorem dX2_cell_26 : decode cX2_cell 26 = .ok (.tableswitch 110 0 5 #[38, 49, 60, 79, 90, 100], 38) := by decide +kernel
theorem dX2_cell_64 : decode cX2_cell 64 = .ok (.aload_n 0, 1) := by decide +kernel
theorem dX2_cell_65 : decode cX2_cell 65 = .ok (.getfield 16, 3) := by decide +kernel
theorem dX2_cell_68 : decode cX2_cell 68 = .ok (.getfield 53, 3) := by decide +kernel
theorem dX2_cell_71 : decode cX2_cell 71 = .ok (.iload 4, 2) := by decide +kernel
theorem dX2_cell_73 : decode cX2_cell 73 = .ok (.iaload, 1) := by decide +kernel
theorem dX2_cell_74 : decode cX2_cell 74 = .ok (.ireturn, 1) := by decide +kernel
theorem dX2_cell_75 : decode cX2_cell 75 = .ok (.aload_n 0, 1) := by decide +kernel
theorem dX2_cell_76 : decode cX2_cell 76 = .ok (.getfield 16, 3) := by decide +kernel
theorem dX2_cell_79 : decode cX2_cell 79 = .ok (.getfield 71, 3) := by decide +kernel
theorem dX2_cell_82 : decode cX2_cell 82 = .ok (.iload 4, 2) := by decide +kernel
theorem dX2_cell_84 : decode cX2_cell 84 = .ok (.iaload, 1) := by decide +kernel
theorem dX2_cell_85 : decode cX2_cell 85 = .ok (.ireturn, 1) := by decide +kernel
theorem dX2_cell_86 : decode cX2_cell 86 = .ok (.aload_n 0, 1) := by decide +kernel
theorem dX2_cell_87 : decode cX2_cell 87 = .ok (.getfield 16, 3) := by decide +kernel
theorem dX2_cell_90 : decode cX2_cell 90 = .ok (.getfield 57, 3) := by decide +kernel
theorem dX2_cell_93 : decode cX2_cell 93 = .ok (.iload 4, 2) := by decide +kernel
theorem dX2_cell_95 : decode cX2_cell 95 = .ok (.baload, 1) := by decide +kernel
theorem dX2_cell_96 : decode cX2_cell 96 = .ok (.ifCond .eq 7, 3) := by decide +kernel
theorem dX2_cell_99 : decode cX2_cell 99 = .ok (.iconst 1, 1) := by decide +kernel
theorem dX2_cell_100 : decode cX2_cell 100 = .ok (.goto 4, 3) := by decide +kernel
theorem dX2_cell_103 : decode cX2_cell 103 = .ok (.iconst 0, 1) := by decide +kernel
theorem dX2_cell_104 : decode cX2_cell 104 = .ok (.ireturn, 1) := by decide +kernel
theorem dX2_cell_105 : decode cX2_cell 105 = .ok (.aload_n 0, 1) := by decide +kernel
theorem dX2_cell_106 : decode cX2_cell 106 = .ok (.getfield 16, 3) := by decide +kernel
theorem dX2_cell_109 : decode cX2_cell 109 = .ok (.getfield 74, 3) := by decide +kernel
theorem dX2_cell_112 : decode cX2_cell 112 = .ok (.iload 4, 2) := by decide +kernel
theorem dX2_cell_114 : decode cX2_cell 114 = .ok (.iaload, 1) := by decide +kernel
theorem dX2_cell_115 : decode cX2_cell 115 = .ok (.ireturn, 1) := by decide +kernel
theorem dX2_cell_116 : decode cX2_cell 116 = .ok (.aload_n 0, 1) := by decide +kernel
theorem dX2_cell_117 : decode cX2_cell 117 = .ok (.getfield 16, 3) := by decide +kernel
theorem dX2_cell_120 : decode cX2_cell 120 = .ok (.iload 4, 2) := by decide +kernel
theorem dX2_cell_122 : decode cX2_cell 122 = .ok (.invokevirtual 77, 3) := by decide +kernel
theorem dX2_cell_125 : decode cX2_cell 125 = .ok (.ireturn, 1) := by decide +kernel
theorem dX2_cell_126 : decode cX2_cell 126 = .ok (.aload_n 0, 1) := by decide +kernel
theorem dX2_cell_127 : decode cX2_cell 127 = .ok (.getfield 26, 3) := by decide +kernel
theorem dX2_cell_130 : decode cX2_cell 130 = .ok (.iload_n 1, 1) := by decide +kernel
theorem dX2_cell_131 : decode cX2_cell 131 = .ok (.iload_n 2, 1) := by decide +kernel
theorem dX2_cell_132 : decode cX2_cell 132 = .ok (.invokevirtual 81, 3) := by decide +kernel
theorem dX2_cell_135 : decode cX2_cell 135 = .ok (.ireturn, 1) := by decide +kernel
theorem dX2_cell_136 : decode cX2_cell 136 = .ok (.new 38, 3) := by decide +kernel
theorem dX2_cell_139 : decode cX2_cell 139 = .ok (.dup, 1) := by decide +kernel
theorem dX2_cell_140 : decode cX2_cell 140 = .ok (.ldc 84, 2) := by decide +kernel
theorem dX2_cell_142 : decode cX2_cell 142 = .ok (.invokespecial 42, 3) := by decide +kernel
theorem dX2_cell_145 : decode cX2_cell 145 = .ok (.athrow, 1) := by decide +kernel
set_option maxRecDepth 20000 in
theorem ggX2_course_X1_isInCourse : GoodIn wsX2_course wsX1_isInCourse := goodIn_r _ [7, 8, 18, 19, 20, 21, 22, 23, 24, 25, 26, 27, 28, 29, 30, 31] (by decide +kernel) (by decide +kernel)
set_option maxRecDepth 20000 in
theorem gX2_course_X1_isInCourse_n86 : GoodIn wsX2_course (wsX1_isInCourse) := ggX2_course_X1_isInCourse
set_option maxRecDepth 20000 in
theorem ggX2_course_X1_isStraight : GoodIn wsX2_course wsX1_isStraight := goodIn_r _ [11, 8, 12, 13, 4, 6, 5, 7, 18, 19, 20, 21, 22, 23, 24, 25, 26, 27, 28, 29, 30, 31] (by decide +kernel) (by decide +kernel)
set_option maxRecDepth 20000 in
theorem gX2_course_X1_isStraight_n97 : GoodIn wsX2_course (wsX1_isStraight) := ggX2_course_X1_isStraight
theorem dX2_course_0 : decode cX2_course 0 = .ok (.aload_n 0, 1) := by decide +kernel
theorem dX2_course_1 : decode cX2_course 1 = .ok (.getfield 16, 3) := by decide +kernel
theorem dX2_course_4 : decode cX2_course 4 = .ok (.iload_n 1, 1) := by decide +kernel
theorem dX2_course_5 : decode cX2_course 5 = .ok (.invokevirtual 86, 3) := by decide +kernel
theorem dX2_course_8 : decode cX2_course 8 = .ok (.ifCond .ne 13, 3) := by decide +kernel
theorem dX2_course_11 : decode cX2_course 11 = .ok (.new 38, 3) := by decide +kernel
theorem dX2_course_14 : decode cX2_course 14 = .ok (.dup, 1) := by decide +kernel
theorem dX2_course_15 : decode cX2_course 15 = .ok (.ldc 89, 2) := by decide +kernel
theorem dX2_course_17 : decode cX2_course 17 = .ok (.invokespecial 42, 3) := by decide +kernel
theorem dX2_course_20 : decode cX2_course 20 = .ok (.athrow, 1) := by decide +kernel
theorem dX2_course_21 : decode cX2_course 21 = .ok (.iload_n 2, 1) := by decide +kernel
theorem dX2_course_22 : decode cX2_course 22 = .ok (.tableswitch 91 0 4 #[34, 44, 54, 71, 81], 34) := by decide +kernel
theorem dX2_course_56 : decode cX2_course 56 = .ok (.aload_n 0, 1) := by decide +kernel
theorem dX2_course_57 : decode cX2_course 57 = .ok (.getfield 16, 3) := by decide +kernel
theorem dX2_course_60 : decode cX2_course 60 = .ok (.getfield 91, 3) := by decide +kernel
theorem dX2_course_63 : decode cX2_course 63 = .ok (.iload_n 1, 1) := by decide +kernel
theorem dX2_course_64 : decode cX2_course 64 = .ok (.iaload, 1) := by decide +kernel
theorem dX2_course_65 : decode cX2_course 65 = .ok (.ireturn, 1) := by decide +kernel
theorem dX2_course_66 : decode cX2_course 66 = .ok (.aload_n 0, 1) := by decide +kernel
theorem dX2_course_67 : decode cX2_course 67 = .ok (.getfield 16, 3) := by decide +kernel
theorem dX2_course_70 : decode cX2_course 70 = .ok (.getfield 94, 3) := by decide +kernel
theorem dX2_course_73 : decode cX2_course 73 = .ok (.iload_n 1, 1) := by decide +kernel
theorem dX2_course_74 : decode cX2_course 74 = .ok (.iaload, 1) := by decide +kernel
theorem dX2_course_75 : decode cX2_course 75 = .ok (.ireturn, 1) := by decide +kernel
theorem dX2_course_76 : decode cX2_course 76 = .ok (.aload_n 0, 1) := by decide +kernel
theorem dX2_course_77 : decode cX2_course 77 = .ok (.getfield 16, 3) := by decide +kernel
theorem dX2_course_80 : decode cX2_course 80 = .ok (.iload_n 1, 1) := by decide +kernel
theorem dX2_course_81 : decode cX2_course 81 = .ok (.invokevirtual 97, 3) := by decide +kernel
theorem dX2_course_84 : decode cX2_course 84 = .ok (.ifCond .eq 7, 3) := by decide +kernel
theorem dX2_course_87 : decode cX2_course 87 = .ok (.iconst 1, 1) := by decide +kernel
theorem dX2_course_88 : decode cX2_course 88 = .ok (.goto 4, 3) := by decide +kernel
theorem dX2_course_91 : decode cX2_course 91 = .ok (.iconst 0, 1) := by decide +kernel
theorem dX2_course_92 : decode cX2_course 92 = .ok (.ireturn, 1) := by decide +kernel
theorem dX2_course_93 : decode cX2_course 93 = .ok (.aload_n 0, 1) := by decide +kernel
theorem dX2_course_94 : decode cX2_course 94 = .ok (.getfield 16, 3) := by decide +kernel
theorem dX2_course_97 : decode cX2_course 97 = .ok (.getfield 100, 3) := by decide +kernel
theorem dX2_course_100 : decode cX2_course 100 = .ok (.iload_n 1, 1) := by decide +kernel
theorem dX2_course_101 : decode cX2_course 101 = .ok (.iaload, 1) := by decide +kernel
theorem dX2_course_102 : decode cX2_course 102 = .ok (.ireturn, 1) := by decide +kernel
theorem dX2_course_103 : decode cX2_course 103 = .ok (.aload_n 0, 1) := by decide +kernel
theorem dX2_course_104 : decode cX2_course 104 = .ok (.getfield 16, 3) := by decide +kernel
theorem dX2_course_107 : decode cX2_course 107 = .ok (.getfield 103, 3) := by decide +kernel
theorem dX2_course_110 : decode cX2_course 110 = .ok (.iload_n 1, 1) := by decide +kernel
theorem dX2_course_111 : decode cX2_course 111 = .ok (.iaload, 1) := by decide +kernel
theorem dX2_course_112 : decode cX2_course 112 = .ok (.ireturn, 1) := by decide +kernel
theorem dX2_course_113 : decode cX2_course 113 = .ok (.new 38, 3) := by decide +kernel
theorem dX2_course_116 : decode cX2_course 116 = .ok (.dup, 1) := by decide +kernel
theorem dX2_course_117 : decode cX2_course 117 = .ok (.ldc 106, 2) := by decide +kernel
theorem dX2_course_119 : decode cX2_course 119 = .ok (.invokespecial 42, 3) := by decide +kernel
theorem dX2_course_122 : decode cX2_course 122 = .ok (.athrow, 1) := by decide +kernel
set_option maxRecDepth 20000 in
theorem ggX2_slip_X1_isInCourse : GoodIn wsX2_slip wsX1_isInCourse := goodIn_r _ [11, 12, 74, 75, 76, 77, 78, 79, 80, 81, 82, 83, 84, 85, 86, 87] (by decide +kernel) (by decide +kernel)
set_option maxRecDepth 20000 in
theorem gX2_slip_X1_isInCourse_n86 : GoodIn wsX2_slip (wsX1_isInCourse) := ggX2_slip_X1_isInCourse
set_option maxRecDepth 20000 in
theorem ggX2_slip_X1_canBulge : GoodIn wsX2_slip wsX1_canBulge := goodIn_r _ [15, 12, 16, 17, 18, 19, 9, 20, 21, 8, 10, 11, 22, 23, 24, 25, 26, 27, 28, 29, 30, 31, 32, 33, 34, 35, 36, 37, 74, 75, 76, 77, 78, 79, 80, 81, 82, 83, 84, 85, 86, 87] (by decide +kernel) (by decide +kernel)
set_option maxRecDepth 20000 in
theorem gX2_slip_X1_canBulge_n110 : GoodIn wsX2_slip (wsX1_canBulge) := ggX2_slip_X1_canBulge
set_option maxRecDepth 20000 in
theorem ggX2_slip_X1_bulge : GoodIn wsX2_slip wsX1_bulge := goodIn_r _ [40, 34, 26, 12, 41, 42, 43, 44, 45, 13, 14, 9, 15, 16, 17, 18, 19, 20, 21, 8, 10, 11, 22, 23, 24, 25, 27, 28, 29, 30, 31, 32, 33, 35, 36, 37, 46, 47, 48, 49, 50, 51, 52, 53, 54, 55, 56, 57, 58, 59, 60, 61, 62, 63, 64, 65, 66, 67, 68, 69, 74, 75, 76, 77, 78, 79, 80, 81, 82, 83, 84, 85, 86, 87] (by decide +kernel) (by decide +kernel)
set_option maxRecDepth 20000 in
theorem gX2_slip_X1_bulge_n119 : GoodIn wsX2_slip (wsX1_bulge) := ggX2_slip_X1_bulge
theorem dX2_slip_0 : decode cX2_slip 0 = .ok (.aload_n 0, 1) := by decide +kernel
theorem dX2_slip_1 : decode cX2_slip 1 = .ok (.getfield 16, 3) := by decide +kernel
theorem dX2_slip_4 : decode cX2_slip 4 = .ok (.iload_n 1, 1) := by decide +kernel
theorem dX2_slip_5 : decode cX2_slip 5 = .ok (.invokevirtual 86, 3) := by decide +kernel
theorem dX2_slip_8 : decode cX2_slip 8 = .ok (.ifCond .ne 13, 3) := by decide +kernel
theorem dX2_slip_11 : decode cX2_slip 11 = .ok (.new 38, 3) := by decide +kernel
theorem dX2_slip_14 : decode cX2_slip 14 = .ok (.dup, 1) := by decide +kernel
theorem dX2_slip_15 : decode cX2_slip 15 = .ok (.ldc 89, 2) := by decide +kernel
theorem dX2_slip_17 : decode cX2_slip 17 = .ok (.invokespecial 42, 3) := by decide +kernel
theorem dX2_slip_20 : decode cX2_slip 20 = .ok (.athrow, 1) := by decide +kernel
theorem dX2_slip_21 : decode cX2_slip 21 = .ok (.iload_n 2, 1) := by decide +kernel
theorem dX2_slip_22 : decode cX2_slip 22 = .ok (.ifCond .lt 8, 3) := by decide +kernel
theorem dX2_slip_25 : decode cX2_slip 25 = .ok (.iload_n 2, 1) := by decide +kernel
theorem dX2_slip_26 : decode cX2_slip 26 = .ok (.iconst 4, 1) := by decide +kernel
theorem dX2_slip_27 : decode cX2_slip 27 = .ok (.if_icmp .lt 13, 3) := by decide +kernel
theorem dX2_slip_30 : decode cX2_slip 30 = .ok (.new 48, 3) := by decide +kernel
theorem dX2_slip_33 : decode cX2_slip 33 = .ok (.dup, 1) := by decide +kernel
theorem dX2_slip_34 : decode cX2_slip 34 = .ok (.ldc 108, 2) := by decide +kernel
theorem dX2_slip_36 : decode cX2_slip 36 = .ok (.invokespecial 52, 3) := by decide +kernel
theorem dX2_slip_39 : decode cX2_slip 39 = .ok (.athrow, 1) := by decide +kernel
theorem dX2_slip_40 : decode cX2_slip 40 = .ok (.aload_n 0, 1) := by decide +kernel
theorem dX2_slip_41 : decode cX2_slip 41 = .ok (.getfield 16, 3) := by decide +kernel
theorem dX2_slip_44 : decode cX2_slip 44 = .ok (.iload_n 1, 1) := by decide +kernel
theorem dX2_slip_45 : decode cX2_slip 45 = .ok (.iload_n 2, 1) := by decide +kernel
theorem dX2_slip_46 : decode cX2_slip 46 = .ok (.invokevirtual 110, 3) := by decide +kernel
theorem dX2_slip_49 : decode cX2_slip 49 = .ok (.ifCond .ne 13, 3) := by decide +kernel
theorem dX2_slip_52 : decode cX2_slip 52 = .ok (.new 114, 3) := by decide +kernel
theorem dX2_slip_55 : decode cX2_slip 55 = .ok (.dup, 1) := by decide +kernel
theorem dX2_slip_56 : decode cX2_slip 56 = .ok (.ldc 116, 2) := by decide +kernel
theorem dX2_slip_58 : decode cX2_slip 58 = .ok (.invokespecial 118, 3) := by decide +kernel
theorem dX2_slip_61 : decode cX2_slip 61 = .ok (.athrow, 1) := by decide +kernel
theorem dX2_slip_62 : decode cX2_slip 62 = .ok (.aload_n 0, 1) := by decide +kernel
theorem dX2_slip_63 : decode cX2_slip 63 = .ok (.getfield 16, 3) := by decide +kernel
theorem dX2_slip_66 : decode cX2_slip 66 = .ok (.iload_n 1, 1) := by decide +kernel
theorem dX2_slip_67 : decode cX2_slip 67 = .ok (.iload_n 2, 1) := by decide +kernel
theorem dX2_slip_68 : decode cX2_slip 68 = .ok (.invokevirtual 119, 3) := by decide +kernel
theorem dX2_slip_71 : decode cX2_slip 71 = .ok (.aload_n 0, 1) := by decide +kernel
theorem dX2_slip_72 : decode cX2_slip 72 = .ok (.getfield 16, 3) := by decide +kernel
theorem dX2_slip_75 : decode cX2_slip 75 = .ok (.getfield 123, 3) := by decide +kernel
theorem dX2_slip_78 : decode cX2_slip 78 = .ok (.ireturn, 1) := by decide +kernel
set_option maxRecDepth 20000 in
theorem ggX2_dig_X1_isInCourse : GoodIn wsX2_dig wsX1_isInCourse := goodIn_r _ [9, 10, 59, 60, 61, 62, 63, 64, 65, 66, 67, 68, 69, 70, 71, 72] (by decide +kernel) (by decide +kernel)
set_option maxRecDepth 20000 in
theorem gX2_dig_X1_isInCourse_n86 : GoodIn wsX2_dig (wsX1_isInCourse) := ggX2_dig_X1_isInCourse
set_option maxRecDepth 20000 in
theorem ggX2_dig_X1_isNeck : GoodIn wsX2_dig wsX1_isNeck := goodIn_r _ [13, 14, 15, 6, 8, 7, 9, 10, 16, 17, 18, 19, 20, 21, 59, 60, 61, 62, 63, 64, 65, 66, 67, 68, 69, 70, 71, 72] (by decide +kernel) (by decide +kernel)
set_option maxRecDepth 20000 in
theorem gX2_dig_X1_isNeck_n127 : GoodIn wsX2_dig (wsX1_isNeck) := ggX2_dig_X1_isNeck
set_option maxRecDepth 20000 in
theorem ggX2_dig_X1_breakThrough : GoodIn wsX2_dig wsX1_breakThrough := goodIn_r _ [24, 25, 26, 27, 14, 10, 28, 29, 30, 31, 32, 33, 11, 12, 7, 13, 15, 6, 8, 9, 16, 17, 18, 19, 20, 21, 34, 35, 36, 37, 38, 39, 40, 41, 42, 43, 44, 45, 46, 47, 48, 49, 50, 51, 52, 53, 54, 59, 60, 61, 62, 63, 64, 65, 66, 67, 68, 69, 70, 71, 72] (by decide +kernel) (by decide +kernel)
set_option maxRecDepth 20000 in
theorem gX2_dig_X1_breakThrough_n132 : GoodIn wsX2_dig (wsX1_breakThrough) := ggX2_dig_X1_breakThrough
theorem dX2_dig_0 : decode cX2_dig 0 = .ok (.aload_n 0, 1) := by decide +kernel
theorem dX2_dig_1 : decode cX2_dig 1 = .ok (.getfield 16, 3) := by decide +kernel
theorem dX2_dig_4 : decode cX2_dig 4 = .ok (.iload_n 1, 1) := by decide +kernel
theorem dX2_dig_5 : decode cX2_dig 5 = .ok (.invokevirtual 86, 3) := by decide +kernel
theorem dX2_dig_8 : decode cX2_dig 8 = .ok (.ifCond .eq 14, 3) := by decide +kernel
theorem dX2_dig_11 : decode cX2_dig 11 = .ok (.aload_n 0, 1) := by decide +kernel
theorem dX2_dig_12 : decode cX2_dig 12 = .ok (.getfield 16, 3) := by decide +kernel
theorem dX2_dig_15 : decode cX2_dig 15 = .ok (.iload_n 2, 1) := by decide +kernel
theorem dX2_dig_16 : decode cX2_dig 16 = .ok (.invokevirtual 86, 3) := by decide +kernel
theorem dX2_dig_19 : decode cX2_dig 19 = .ok (.ifCond .ne 13, 3) := by decide +kernel
theorem dX2_dig_22 : decode cX2_dig 22 = .ok (.new 38, 3) := by decide +kernel
theorem dX2_dig_25 : decode cX2_dig 25 = .ok (.dup, 1) := by decide +kernel
theorem dX2_dig_26 : decode cX2_dig 26 = .ok (.ldc 89, 2) := by decide +kernel
theorem dX2_dig_28 : decode cX2_dig 28 = .ok (.invokespecial 42, 3) := by decide +kernel
theorem dX2_dig_31 : decode cX2_dig 31 = .ok (.athrow, 1) := by decide +kernel
theorem dX2_dig_32 : decode cX2_dig 32 = .ok (.aload_n 0, 1) := by decide +kernel
theorem dX2_dig_33 : decode cX2_dig 33 = .ok (.getfield 16, 3) := by decide +kernel
theorem dX2_dig_36 : decode cX2_dig 36 = .ok (.iload_n 1, 1) := by decide +kernel
theorem dX2_dig_37 : decode cX2_dig 37 = .ok (.iload_n 2, 1) := by decide +kernel
theorem dX2_dig_38 : decode cX2_dig 38 = .ok (.invokevirtual 127, 3) := by decide +kernel
theorem dX2_dig_41 : decode cX2_dig 41 = .ok (.ifCond .ne 13, 3) := by decide +kernel
theorem dX2_dig_44 : decode cX2_dig 44 = .ok (.new 114, 3) := by decide +kernel
theorem dX2_dig_47 : decode cX2_dig 47 = .ok (.dup, 1) := by decide +kernel
theorem dX2_dig_48 : decode cX2_dig 48 = .ok (.ldc 130, 2) := by decide +kernel
theorem dX2_dig_50 : decode cX2_dig 50 = .ok (.invokespecial 118, 3) := by decide +kernel
theorem dX2_dig_53 : decode cX2_dig 53 = .ok (.athrow, 1) := by decide +kernel
theorem dX2_dig_54 : decode cX2_dig 54 = .ok (.aload_n 0, 1) := by decide +kernel
theorem dX2_dig_55 : decode cX2_dig 55 = .ok (.getfield 16, 3) := by decide +kernel
theorem dX2_dig_58 : decode cX2_dig 58 = .ok (.iload_n 1, 1) := by decide +kernel
theorem dX2_dig_59 : decode cX2_dig 59 = .ok (.iload_n 2, 1) := by decide +kernel
theorem dX2_dig_60 : decode cX2_dig 60 = .ok (.invokevirtual 132, 3) := by decide +kernel
theorem dX2_dig_63 : decode cX2_dig 63 = .ok (.aload_n 0, 1) := by decide +kernel
theorem dX2_dig_64 : decode cX2_dig 64 = .ok (.getfield 16, 3) := by decide +kernel
theorem dX2_dig_67 : decode cX2_dig 67 = .ok (.getfield 123, 3) := by decide +kernel
theorem dX2_dig_70 : decode cX2_dig 70 = .ok (.ireturn, 1) := by decide +kernel
set_option maxRecDepth 20000 in
theorem ggX2_neck_X1_necks : GoodIn wsX2_neck wsX1_necks := goodIn_r _ [8, 9, 10, 11, 12, 13, 14, 15, 16, 6, 17, 18, 19, 20, 85, 86, 87, 88, 89, 90, 91, 92, 93, 94, 95, 96, 97, 98] (by decide +kernel) (by decide +kernel)
set_option maxRecDepth 20000 in
theorem gX2_neck_X1_necks_n135 : GoodIn wsX2_neck (wsX1_necks) := ggX2_neck_X1_necks
set_option maxRecDepth 20000 in
theorem ggX2_neck_X1_widestNeck : GoodIn wsX2_neck wsX1_widestNeck := goodIn_r _ [23, 9, 24, 25, 26, 6, 27, 28, 29, 30, 31, 10, 32, 33, 34, 35, 11, 12, 13, 14, 15, 16, 17, 18, 19, 20, 85, 86, 87, 88, 89, 90, 91, 92, 93, 94, 95, 96, 97, 98] (by decide +kernel) (by decide +kernel)
set_option maxRecDepth 20000 in
theorem gX2_neck_X1_widestNeck_n138 : GoodIn wsX2_neck (wsX1_widestNeck) := ggX2_neck_X1_widestNeck
set_option maxRecDepth 20000 in
theorem ggX2_neck_X1_farthestAcross : GoodIn wsX2_neck wsX1_farthestAcross := goodIn_r _ [27, 28, 29, 30, 6, 31, 10, 32, 33, 34, 35, 9, 11, 12, 13, 14, 15, 16, 17, 18, 19, 20, 85, 86, 87, 88, 89, 90, 91, 92, 93, 94, 95, 96, 97, 98] (by decide +kernel) (by decide +kernel)
set_option maxRecDepth 20000 in
theorem gX2_neck_X1_farthestAcross_n141 : GoodIn wsX2_neck (wsX1_farthestAcross) := ggX2_neck_X1_farthestAcross
set_option maxRecDepth 20000 in
theorem ggX2_neck_X1_copyFrom : GoodIn wsX2_neck wsX1_copyFrom := goodIn_r _ [38, 39, 40, 41, 42, 43, 44, 45, 46, 47, 10, 18, 48, 49, 50, 9, 51, 52, 53, 85, 86, 87, 88, 89, 90, 91, 92, 93, 94, 95, 96, 97, 98] (by decide +kernel) (by decide +kernel)
set_option maxRecDepth 20000 in
theorem gX2_neck_X1_copyFrom_n144 : GoodIn wsX2_neck (wsX1_copyFrom) := ggX2_neck_X1_copyFrom
set_option maxRecDepth 20000 in
theorem ggX2_neck_X1_flood : GoodIn wsX2_neck wsX1_flood := goodIn_r _ [56, 57, 21, 22, 6, 23, 9, 24, 25, 26, 27, 28, 29, 30, 31, 10, 32, 33, 34, 35, 11, 12, 13, 14, 15, 16, 17, 18, 19, 20, 58, 59, 60, 61, 46, 51, 40, 41, 42, 43, 52, 62, 63, 64, 65, 66, 67, 68, 69, 70, 71, 72, 73, 74, 75, 76, 48, 77, 78, 79, 80, 49, 50, 85, 86, 87, 88, 89, 90, 91, 92, 93, 94, 95, 96, 97, 98] (by decide +kernel) (by decide +kernel)
set_option maxRecDepth 20000 in
theorem gX2_neck_X1_flood_n148 : GoodIn wsX2_neck (wsX1_flood) := ggX2_neck_X1_flood
theorem dX2_neck_0 : decode cX2_neck 0 = .ok (.iload_n 1, 1) := by decide +kernel
theorem dX2_neck_1 : decode cX2_neck 1 = .ok (.tableswitch 96 0 3 #[31, 39, 47, 62], 31) := by decide +kernel
theorem dX2_neck_32 : decode cX2_neck 32 = .ok (.aload_n 0, 1) := by decide +kernel
theorem dX2_neck_33 : decode cX2_neck 33 = .ok (.getfield 16, 3) := by decide +kernel
theorem dX2_neck_36 : decode cX2_neck 36 = .ok (.invokevirtual 135, 3) := by decide +kernel
theorem dX2_neck_39 : decode cX2_neck 39 = .ok (.ireturn, 1) := by decide +kernel
theorem dX2_neck_40 : decode cX2_neck 40 = .ok (.aload_n 0, 1) := by decide +kernel
theorem dX2_neck_41 : decode cX2_neck 41 = .ok (.getfield 16, 3) := by decide +kernel
theorem dX2_neck_44 : decode cX2_neck 44 = .ok (.invokevirtual 138, 3) := by decide +kernel
theorem dX2_neck_47 : decode cX2_neck 47 = .ok (.ireturn, 1) := by decide +kernel
theorem dX2_neck_48 : decode cX2_neck 48 = .ok (.aload_n 0, 1) := by decide +kernel
theorem dX2_neck_49 : decode cX2_neck 49 = .ok (.getfield 16, 3) := by decide +kernel
theorem dX2_neck_52 : decode cX2_neck 52 = .ok (.aload_n 0, 1) := by decide +kernel
theorem dX2_neck_53 : decode cX2_neck 53 = .ok (.getfield 16, 3) := by decide +kernel
theorem dX2_neck_56 : decode cX2_neck 56 = .ok (.invokevirtual 138, 3) := by decide +kernel
theorem dX2_neck_59 : decode cX2_neck 59 = .ok (.invokevirtual 141, 3) := by decide +kernel
theorem dX2_neck_62 : decode cX2_neck 62 = .ok (.ireturn, 1) := by decide +kernel
theorem dX2_neck_63 : decode cX2_neck 63 = .ok (.aload_n 0, 1) := by decide +kernel
theorem dX2_neck_64 : decode cX2_neck 64 = .ok (.getfield 20, 3) := by decide +kernel
theorem dX2_neck_67 : decode cX2_neck 67 = .ok (.aload_n 0, 1) := by decide +kernel
theorem dX2_neck_68 : decode cX2_neck 68 = .ok (.getfield 16, 3) := by decide +kernel
theorem dX2_neck_71 : decode cX2_neck 71 = .ok (.invokevirtual 144, 3) := by decide +kernel
theorem dX2_neck_74 : decode cX2_neck 74 = .ok (.aload_n 0, 1) := by decide +kernel
theorem dX2_neck_75 : decode cX2_neck 75 = .ok (.getfield 20, 3) := by decide +kernel
theorem dX2_neck_78 : decode cX2_neck 78 = .ok (.invokevirtual 148, 3) := by decide +kernel
theorem dX2_neck_81 : decode cX2_neck 81 = .ok (.aload_n 0, 1) := by decide +kernel
theorem dX2_neck_82 : decode cX2_neck 82 = .ok (.getfield 16, 3) := by decide +kernel
theorem dX2_neck_85 : decode cX2_neck 85 = .ok (.getfield 123, 3) := by decide +kernel
theorem dX2_neck_88 : decode cX2_neck 88 = .ok (.aload_n 0, 1) := by decide +kernel
theorem dX2_neck_89 : decode cX2_neck 89 = .ok (.getfield 20, 3) := by decide +kernel
theorem dX2_neck_92 : decode cX2_neck 92 = .ok (.getfield 123, 3) := by decide +kernel
theorem dX2_neck_95 : decode cX2_neck 95 = .ok (.isub, 1) := by decide +kernel
theorem dX2_neck_96 : decode cX2_neck 96 = .ok (.ireturn, 1) := by decide +kernel
theorem dX2_neck_97 : decode cX2_neck 97 = .ok (.new 38, 3) := by decide +kernel
theorem dX2_neck_100 : decode cX2_neck 100 = .ok (.dup, 1) := by decide +kernel
theorem dX2_neck_101 : decode cX2_neck 101 = .ok (.ldc 151, 2) := by decide +kernel
theorem dX2_neck_103 : decode cX2_neck 103 = .ok (.invokespecial 42, 3) := by decide +kernel
theorem dX2_neck_106 : decode cX2_neck 106 = .ok (.athrow, 1) := by decide +kernel
set_option maxRecDepth 20000 in
theorem ggX2_addFarm_X2_isSpan : GoodIn wsX2_addFarm wsX2_isSpan := goodIn_r _ [9] (by decide +kernel) (by decide +kernel)
set_option maxRecDepth 20000 in
theorem gX2_addFarm_X2_isSpan : GoodIn wsX2_addFarm (va_wsS RX2 153 yX2_isSpan wsX2_isSpan) := goodIn_app (goodIn_of _ (by decide +kernel)) ggX2_addFarm_X2_isSpan
set_option maxRecDepth 20000 in
theorem ggX2_addFarm_X0_append : GoodIn wsX2_addFarm wsX0_append := goodIn_r _ [13, 14, 15, 16, 17, 18, 23, 24, 25, 26, 27] (by decide +kernel) (by decide +kernel)
set_option maxRecDepth 20000 in
theorem gX2_addFarm_X0_append_n164 : GoodIn wsX2_addFarm (wsX0_append) := ggX2_addFarm_X0_append
theorem dX2_addFarm_0 : decode cX2_addFarm 0 = .ok (.iload_n 1, 1) := by decide +kernel
theorem dX2_addFarm_1 : decode cX2_addFarm 1 = .ok (.iload_n 3, 1) := by decide +kernel
theorem dX2_addFarm_2 : decode cX2_addFarm 2 = .ok (.bipush 24, 2) := by decide +kernel
theorem dX2_addFarm_4 : decode cX2_addFarm 4 = .ok (.invokestatic 153, 3) := by decide +kernel
theorem dX2_addFarm_7 : decode cX2_addFarm 7 = .ok (.ifCond .eq 14, 3) := by decide +kernel
theorem dX2_addFarm_10 : decode cX2_addFarm 10 = .ok (.iload_n 2, 1) := by decide +kernel
theorem dX2_addFarm_11 : decode cX2_addFarm 11 = .ok (.iload 4, 2) := by decide +kernel
theorem dX2_addFarm_13 : decode cX2_addFarm 13 = .ok (.bipush 16, 2) := by decide +kernel
theorem dX2_addFarm_15 : decode cX2_addFarm 15 = .ok (.invokestatic 153, 3) := by decide +kernel
theorem dX2_addFarm_18 : decode cX2_addFarm 18 = .ok (.ifCond .ne 13, 3) := by decide +kernel
theorem dX2_addFarm_21 : decode cX2_addFarm 21 = .ok (.new 48, 3) := by decide +kernel
theorem dX2_addFarm_24 : decode cX2_addFarm 24 = .ok (.dup, 1) := by decide +kernel
theorem dX2_addFarm_25 : decode cX2_addFarm 25 = .ok (.ldc 157, 2) := by decide +kernel
theorem dX2_addFarm_27 : decode cX2_addFarm 27 = .ok (.invokespecial 52, 3) := by decide +kernel
theorem dX2_addFarm_30 : decode cX2_addFarm 30 = .ok (.athrow, 1) := by decide +kernel
theorem dX2_addFarm_31 : decode cX2_addFarm 31 = .ok (.aload_n 0, 1) := by decide +kernel
theorem dX2_addFarm_32 : decode cX2_addFarm 32 = .ok (.getfield 26, 3) := by decide +kernel
theorem dX2_addFarm_35 : decode cX2_addFarm 35 = .ok (.getfield 159, 3) := by decide +kernel
theorem dX2_addFarm_38 : decode cX2_addFarm 38 = .ok (.bipush 6, 2) := by decide +kernel
theorem dX2_addFarm_40 : decode cX2_addFarm 40 = .ok (.if_icmp .lt 13, 3) := by decide +kernel
theorem dX2_addFarm_43 : decode cX2_addFarm 43 = .ok (.new 114, 3) := by decide +kernel
theorem dX2_addFarm_46 : decode cX2_addFarm 46 = .ok (.dup, 1) := by decide +kernel
theorem dX2_addFarm_47 : decode cX2_addFarm 47 = .ok (.ldc 162, 2) := by decide +kernel
theorem dX2_addFarm_49 : decode cX2_addFarm 49 = .ok (.invokespecial 118, 3) := by decide +kernel
theorem dX2_addFarm_52 : decode cX2_addFarm 52 = .ok (.athrow, 1) := by decide +kernel
theorem dX2_addFarm_53 : decode cX2_addFarm 53 = .ok (.aload_n 0, 1) := by decide +kernel
theorem dX2_addFarm_54 : decode cX2_addFarm 54 = .ok (.getfield 26, 3) := by decide +kernel
theorem dX2_addFarm_57 : decode cX2_addFarm 57 = .ok (.iload_n 1, 1) := by decide +kernel
theorem dX2_addFarm_58 : decode cX2_addFarm 58 = .ok (.iload_n 2, 1) := by decide +kernel
theorem dX2_addFarm_59 : decode cX2_addFarm 59 = .ok (.iload_n 3, 1) := by decide +kernel
theorem dX2_addFarm_60 : decode cX2_addFarm 60 = .ok (.iload 4, 2) := by decide +kernel
theorem dX2_addFarm_62 : decode cX2_addFarm 62 = .ok (.invokevirtual 164, 3) := by decide +kernel
theorem dX2_addFarm_65 : decode cX2_addFarm 65 = .ok (.ireturn, 1) := by decide +kernel
set_option maxRecDepth 20000 in
theorem ggX2_farm_X0_isFarm : GoodIn wsX2_farm wsX0_isFarm := goodIn_r _ [8, 9, 40, 41, 42, 43, 44] (by decide +kernel) (by decide +kernel)
set_option maxRecDepth 20000 in
theorem gX2_farm_X0_isFarm_n168 : GoodIn wsX2_farm (wsX0_isFarm) := ggX2_farm_X0_isFarm
set_option maxRecDepth 20000 in
theorem ggX2_farm_X0_cellsOf : GoodIn wsX2_farm wsX0_cellsOf := goodIn_r _ [12, 13, 14, 15, 16, 17, 5, 7, 6, 8, 9, 18, 19, 20, 21, 22, 23, 24, 25, 26, 27, 28, 29, 30, 31, 32, 33, 34, 35, 40, 41, 42, 43, 44, 45, 46, 47, 48, 49, 50, 51, 52, 53, 54, 55, 56, 57, 58] (by decide +kernel) (by decide +kernel)
set_option maxRecDepth 20000 in
theorem gX2_farm_X0_cellsOf_n173 : GoodIn wsX2_farm (wsX0_cellsOf) := ggX2_farm_X0_cellsOf
theorem dX2_farm_0 : decode cX2_farm 0 = .ok (.aload_n 0, 1) := by decide +kernel
theorem dX2_farm_1 : decode cX2_farm 1 = .ok (.getfield 26, 3) := by decide +kernel
theorem dX2_farm_4 : decode cX2_farm 4 = .ok (.iload_n 1, 1) := by decide +kernel
theorem dX2_farm_5 : decode cX2_farm 5 = .ok (.invokevirtual 168, 3) := by decide +kernel
theorem dX2_farm_8 : decode cX2_farm 8 = .ok (.ifCond .ne 13, 3) := by decide +kernel
theorem dX2_farm_11 : decode cX2_farm 11 = .ok (.new 38, 3) := by decide +kernel
theorem dX2_farm_14 : decode cX2_farm 14 = .ok (.dup, 1) := by decide +kernel
theorem dX2_farm_15 : decode cX2_farm 15 = .ok (.ldc 171, 2) := by decide +kernel
theorem dX2_farm_17 : decode cX2_farm 17 = .ok (.invokespecial 42, 3) := by decide +kernel
theorem dX2_farm_20 : decode cX2_farm 20 = .ok (.athrow, 1) := by decide +kernel
theorem dX2_farm_21 : decode cX2_farm 21 = .ok (.iload_n 2, 1) := by decide +kernel
theorem dX2_farm_22 : decode cX2_farm 22 = .ok (.ifCond .lt 8, 3) := by decide +kernel
theorem dX2_farm_25 : decode cX2_farm 25 = .ok (.iload_n 2, 1) := by decide +kernel
theorem dX2_farm_26 : decode cX2_farm 26 = .ok (.iconst 5, 1) := by decide +kernel
theorem dX2_farm_27 : decode cX2_farm 27 = .ok (.if_icmp .lt 13, 3) := by decide +kernel
theorem dX2_farm_30 : decode cX2_farm 30 = .ok (.new 38, 3) := by decide +kernel
theorem dX2_farm_33 : decode cX2_farm 33 = .ok (.dup, 1) := by decide +kernel
theorem dX2_farm_34 : decode cX2_farm 34 = .ok (.ldc 106, 2) := by decide +kernel
theorem dX2_farm_36 : decode cX2_farm 36 = .ok (.invokespecial 42, 3) := by decide +kernel
theorem dX2_farm_39 : decode cX2_farm 39 = .ok (.athrow, 1) := by decide +kernel
theorem dX2_farm_40 : decode cX2_farm 40 = .ok (.aload_n 0, 1) := by decide +kernel
theorem dX2_farm_41 : decode cX2_farm 41 = .ok (.getfield 26, 3) := by decide +kernel
theorem dX2_farm_44 : decode cX2_farm 44 = .ok (.iload_n 1, 1) := by decide +kernel
theorem dX2_farm_45 : decode cX2_farm 45 = .ok (.iload_n 2, 1) := by decide +kernel
theorem dX2_farm_46 : decode cX2_farm 46 = .ok (.aload_n 0, 1) := by decide +kernel
theorem dX2_farm_47 : decode cX2_farm 47 = .ok (.getfield 16, 3) := by decide +kernel
theorem dX2_farm_50 : decode cX2_farm 50 = .ok (.invokevirtual 173, 3) := by decide +kernel
theorem dX2_farm_53 : decode cX2_farm 53 = .ok (.ireturn, 1) := by decide +kernel
set_option maxRecDepth 20000 in
theorem ggX2_pass_X1_letPass : GoodIn wsX2_pass wsX1_letPass := goodIn_r _ [7, 8, 9, 10, 11, 12, 13, 14, 15, 16, 5, 17, 18, 19, 20, 21, 22, 23, 24, 25, 26, 27, 28, 29, 30, 31, 32, 33, 34, 35, 36, 37, 38, 39, 40, 41, 42, 43, 44, 45, 46, 47, 48, 49, 50, 51, 52, 53, 54, 55, 56, 57, 58, 59, 60, 61, 62, 63, 64, 65, 66, 67, 68, 69, 70, 71, 72, 73, 74, 75, 76, 77, 78, 79, 80, 81, 82, 83, 84, 85, 86, 87, 88, 89, 90, 91, 92, 93, 94, 95, 96, 97, 98, 99, 100, 101, 102, 103, 104, 105, 106, 107, 108, 109, 114, 115, 116, 117, 118, 119, 120, 121, 122, 123, 124, 125, 126, 127] (by decide +kernel) (by decide +kernel)
set_option maxRecDepth 20000 in
theorem gX2_pass_X1_letPass_n179 : GoodIn wsX2_pass (wsX1_letPass) := ggX2_pass_X1_letPass
theorem dX2_pass_0 : decode cX2_pass 0 = .ok (.iload_n 1, 1) := by decide +kernel
theorem dX2_pass_1 : decode cX2_pass 1 = .ok (.iconst 1, 1) := by decide +kernel
theorem dX2_pass_2 : decode cX2_pass 2 = .ok (.if_icmp .lt 9, 3) := by decide +kernel
theorem dX2_pass_5 : decode cX2_pass 5 = .ok (.iload_n 1, 1) := by decide +kernel
theorem dX2_pass_6 : decode cX2_pass 6 = .ok (.bipush 100, 2) := by decide +kernel
theorem dX2_pass_8 : decode cX2_pass 8 = .ok (.if_icmp .le 13, 3) := by decide +kernel
theorem dX2_pass_11 : decode cX2_pass 11 = .ok (.new 48, 3) := by decide +kernel
theorem dX2_pass_14 : decode cX2_pass 14 = .ok (.dup, 1) := by decide +kernel
theorem dX2_pass_15 : decode cX2_pass 15 = .ok (.ldc 177, 2) := by decide +kernel
theorem dX2_pass_17 : decode cX2_pass 17 = .ok (.invokespecial 52, 3) := by decide +kernel
theorem dX2_pass_20 : decode cX2_pass 20 = .ok (.athrow, 1) := by decide +kernel
theorem dX2_pass_21 : decode cX2_pass 21 = .ok (.aload_n 0, 1) := by decide +kernel
theorem dX2_pass_22 : decode cX2_pass 22 = .ok (.getfield 16, 3) := by decide +kernel
theorem dX2_pass_25 : decode cX2_pass 25 = .ok (.iload_n 1, 1) := by decide +kernel
theorem dX2_pass_26 : decode cX2_pass 26 = .ok (.invokevirtual 179, 3) := by decide +kernel
theorem dX2_pass_29 : decode cX2_pass 29 = .ok (.ireturn, 1) := by decide +kernel
set_option maxRecDepth 20000 in
theorem ggX2_count_X2_total : GoodIn wsX2_count wsX2_total := goodIn_r _ [7, 8, 9, 10, 11, 12, 13, 14, 15, 16, 17, 18, 19, 20, 21, 22, 23, 24, 25, 26, 27, 28, 29, 30, 31, 32, 33, 34, 35, 36, 37, 38, 39, 40, 41, 42, 43, 44, 45, 46, 47, 48, 49, 50, 51, 52, 53, 54, 55, 56, 57, 58, 59] (by decide +kernel) (by decide +kernel)
set_option maxRecDepth 20000 in
theorem gX2_count_X2_total : GoodIn wsX2_count (wsV RX2 184 RX2 yX2_total wsX2_total) := goodIn_app (goodIn_of _ (by decide +kernel)) ggX2_count_X2_total
theorem dX2_count_0 : decode cX2_count 0 = .ok (.iload_n 1, 1) := by decide +kernel
theorem dX2_count_1 : decode cX2_count 1 = .ok (.ifCond .lt 9, 3) := by decide +kernel
theorem dX2_count_4 : decode cX2_count 4 = .ok (.iload_n 1, 1) := by decide +kernel
theorem dX2_count_5 : decode cX2_count 5 = .ok (.bipush 8, 2) := by decide +kernel
theorem dX2_count_7 : decode cX2_count 7 = .ok (.if_icmp .lt 13, 3) := by decide +kernel
theorem dX2_count_10 : decode cX2_count 10 = .ok (.new 38, 3) := by decide +kernel
theorem dX2_count_13 : decode cX2_count 13 = .ok (.dup, 1) := by decide +kernel
theorem dX2_count_14 : decode cX2_count 14 = .ok (.ldc 182, 2) := by decide +kernel
theorem dX2_count_16 : decode cX2_count 16 = .ok (.invokespecial 42, 3) := by decide +kernel
theorem dX2_count_19 : decode cX2_count 19 = .ok (.athrow, 1) := by decide +kernel
theorem dX2_count_20 : decode cX2_count 20 = .ok (.aload_n 0, 1) := by decide +kernel
theorem dX2_count_21 : decode cX2_count 21 = .ok (.iload_n 1, 1) := by decide +kernel
theorem dX2_count_22 : decode cX2_count 22 = .ok (.invokevirtual 184, 3) := by decide +kernel
theorem dX2_count_25 : decode cX2_count 25 = .ok (.ireturn, 1) := by decide +kernel
set_option maxRecDepth 20000 in
theorem ggX2_foresee_X1_copyFrom : GoodIn wsX2_foresee wsX1_copyFrom := goodIn_r _ [10, 11, 12, 13, 14, 15, 16, 17, 18, 19, 20, 21, 22, 23, 24, 25, 26, 27, 28, 120, 121, 122, 123, 124, 125, 126, 127, 128, 129, 130, 131, 132, 133] (by decide +kernel) (by decide +kernel)
set_option maxRecDepth 20000 in
theorem gX2_foresee_X1_copyFrom_n144 : GoodIn wsX2_foresee (wsX1_copyFrom) := ggX2_foresee_X1_copyFrom
set_option maxRecDepth 20000 in
theorem ggX2_foresee_X1_letPass : GoodIn wsX2_foresee wsX1_letPass := goodIn_r _ [31, 19, 26, 32, 33, 34, 35, 36, 37, 38, 8, 39, 25, 24, 16, 40, 41, 42, 43, 21, 17, 44, 45, 46, 47, 48, 49, 50, 11, 23, 51, 52, 53, 54, 22, 55, 56, 57, 58, 59, 60, 61, 62, 63, 64, 65, 66, 20, 67, 68, 69, 70, 71, 72, 12, 13, 14, 15, 73, 74, 75, 76, 18, 28, 77, 78, 79, 80, 81, 82, 83, 84, 85, 86, 87, 88, 89, 90, 91, 92, 93, 94, 95, 96, 97, 98, 99, 100, 101, 102, 103, 104, 105, 106, 107, 108, 109, 110, 111, 27, 112, 113, 114, 115, 120, 121, 122, 123, 124, 125, 126, 127, 128, 129, 130, 131, 132, 133] (by decide +kernel) (by decide +kernel)
set_option maxRecDepth 20000 in
theorem gX2_foresee_X1_letPass_n179 : GoodIn wsX2_foresee (wsX1_letPass) := ggX2_foresee_X1_letPass
theorem dX2_foresee_0 : decode cX2_foresee 0 = .ok (.iload_n 1, 1) := by decide +kernel
theorem dX2_foresee_1 : decode cX2_foresee 1 = .ok (.iconst 1, 1) := by decide +kernel
theorem dX2_foresee_2 : decode cX2_foresee 2 = .ok (.if_icmp .lt 9, 3) := by decide +kernel
theorem dX2_foresee_5 : decode cX2_foresee 5 = .ok (.iload_n 1, 1) := by decide +kernel
theorem dX2_foresee_6 : decode cX2_foresee 6 = .ok (.bipush 100, 2) := by decide +kernel
theorem dX2_foresee_8 : decode cX2_foresee 8 = .ok (.if_icmp .le 13, 3) := by decide +kernel
theorem dX2_foresee_11 : decode cX2_foresee 11 = .ok (.new 48, 3) := by decide +kernel
theorem dX2_foresee_14 : decode cX2_foresee 14 = .ok (.dup, 1) := by decide +kernel
theorem dX2_foresee_15 : decode cX2_foresee 15 = .ok (.ldc 177, 2) := by decide +kernel
theorem dX2_foresee_17 : decode cX2_foresee 17 = .ok (.invokespecial 52, 3) := by decide +kernel
theorem dX2_foresee_20 : decode cX2_foresee 20 = .ok (.athrow, 1) := by decide +kernel
theorem dX2_foresee_21 : decode cX2_foresee 21 = .ok (.iload_n 2, 1) := by decide +kernel
theorem dX2_foresee_22 : decode cX2_foresee 22 = .ok (.ifCond .lt 8, 3) := by decide +kernel
theorem dX2_foresee_25 : decode cX2_foresee 25 = .ok (.iload_n 2, 1) := by decide +kernel
theorem dX2_foresee_26 : decode cX2_foresee 26 = .ok (.iconst 2, 1) := by decide +kernel
theorem dX2_foresee_27 : decode cX2_foresee 27 = .ok (.if_icmp .le 13, 3) := by decide +kernel
theorem dX2_foresee_30 : decode cX2_foresee 30 = .ok (.new 38, 3) := by decide +kernel
theorem dX2_foresee_33 : decode cX2_foresee 33 = .ok (.dup, 1) := by decide +kernel
theorem dX2_foresee_34 : decode cX2_foresee 34 = .ok (.ldc 187, 2) := by decide +kernel
theorem dX2_foresee_36 : decode cX2_foresee 36 = .ok (.invokespecial 42, 3) := by decide +kernel
theorem dX2_foresee_39 : decode cX2_foresee 39 = .ok (.athrow, 1) := by decide +kernel
theorem dX2_foresee_40 : decode cX2_foresee 40 = .ok (.aload_n 0, 1) := by decide +kernel
theorem dX2_foresee_41 : decode cX2_foresee 41 = .ok (.getfield 20, 3) := by decide +kernel
theorem dX2_foresee_44 : decode cX2_foresee 44 = .ok (.aload_n 0, 1) := by decide +kernel
theorem dX2_foresee_45 : decode cX2_foresee 45 = .ok (.getfield 16, 3) := by decide +kernel
theorem dX2_foresee_48 : decode cX2_foresee 48 = .ok (.invokevirtual 144, 3) := by decide +kernel
theorem dX2_foresee_51 : decode cX2_foresee 51 = .ok (.aload_n 0, 1) := by decide +kernel
theorem dX2_foresee_52 : decode cX2_foresee 52 = .ok (.getfield 20, 3) := by decide +kernel
theorem dX2_foresee_55 : decode cX2_foresee 55 = .ok (.iload_n 1, 1) := by decide +kernel
theorem dX2_foresee_56 : decode cX2_foresee 56 = .ok (.invokevirtual 179, 3) := by decide +kernel
theorem dX2_foresee_59 : decode cX2_foresee 59 = .ok (.istore_n 3, 1) := by decide +kernel
theorem dX2_foresee_60 : decode cX2_foresee 60 = .ok (.iload_n 2, 1) := by decide +kernel
theorem dX2_foresee_61 : decode cX2_foresee 61 = .ok (.ifCond .ne 11, 3) := by decide +kernel
theorem dX2_foresee_64 : decode cX2_foresee 64 = .ok (.aload_n 0, 1) := by decide +kernel
theorem dX2_foresee_65 : decode cX2_foresee 65 = .ok (.getfield 20, 3) := by decide +kernel
theorem dX2_foresee_68 : decode cX2_foresee 68 = .ok (.getfield 123, 3) := by decide +kernel
theorem dX2_foresee_71 : decode cX2_foresee 71 = .ok (.ireturn, 1) := by decide +kernel
theorem dX2_foresee_72 : decode cX2_foresee 72 = .ok (.iload_n 2, 1) := by decide +kernel
theorem dX2_foresee_73 : decode cX2_foresee 73 = .ok (.iconst 1, 1) := by decide +kernel
theorem dX2_foresee_74 : decode cX2_foresee 74 = .ok (.if_icmp .ne 21, 3) := by decide +kernel
theorem dX2_foresee_77 : decode cX2_foresee 77 = .ok (.aload_n 0, 1) := by decide +kernel
theorem dX2_foresee_78 : decode cX2_foresee 78 = .ok (.getfield 20, 3) := by decide +kernel
theorem dX2_foresee_81 : decode cX2_foresee 81 = .ok (.getfield 189, 3) := by decide +kernel
theorem dX2_foresee_84 : decode cX2_foresee 84 = .ok (.aload_n 0, 1) := by decide +kernel
theorem dX2_foresee_85 : decode cX2_foresee 85 = .ok (.getfield 16, 3) := by decide +kernel
theorem dX2_foresee_88 : decode cX2_foresee 88 = .ok (.getfield 189, 3) := by decide +kernel
theorem dX2_foresee_91 : decode cX2_foresee 91 = .ok (.isub, 1) := by decide +kernel
theorem dX2_foresee_92 : decode cX2_foresee 92 = .ok (.goto 4, 3) := by decide +kernel
theorem dX2_foresee_95 : decode cX2_foresee 95 = .ok (.iload_n 3, 1) := by decide +kernel
theorem dX2_foresee_96 : decode cX2_foresee 96 = .ok (.ireturn, 1) := by decide +kernel
set_option maxRecDepth 20000 in
theorem ggX2_loses_X0_isFarm : GoodIn wsX2_loses wsX0_isFarm := goodIn_r _ [9, 10, 140, 141, 142, 143, 144] (by decide +kernel) (by decide +kernel)
set_option maxRecDepth 20000 in
theorem gX2_loses_X0_isFarm_n168 : GoodIn wsX2_loses (wsX0_isFarm) := ggX2_loses_X0_isFarm
set_option maxRecDepth 20000 in
theorem ggX2_loses_X0_cellsOf : GoodIn wsX2_loses wsX0_cellsOf := goodIn_r _ [13, 14, 15, 16, 17, 18, 6, 8, 7, 9, 10, 19, 20, 21, 22, 23, 24, 25, 26, 27, 28, 29, 30, 31, 32, 33, 34, 35, 36, 140, 141, 142, 143, 144, 145, 146, 147, 148, 149, 150, 151, 152, 153, 154, 155, 156, 157, 158] (by decide +kernel) (by decide +kernel)
set_option maxRecDepth 20000 in
theorem gX2_loses_X0_cellsOf_n173 : GoodIn wsX2_loses (wsX0_cellsOf) := ggX2_loses_X0_cellsOf
set_option maxRecDepth 20000 in
theorem ggX2_loses_X1_copyFrom : GoodIn wsX2_loses wsX1_copyFrom := goodIn_r _ [39, 40, 41, 42, 43, 44, 45, 46, 31, 47, 48, 49, 50, 51, 52, 53, 32, 54, 55, 145, 146, 147, 148, 149, 150, 151, 152, 153, 154, 155, 156, 157, 158] (by decide +kernel) (by decide +kernel)
set_option maxRecDepth 20000 in
theorem gX2_loses_X1_copyFrom_n144 : GoodIn wsX2_loses (wsX1_copyFrom) := ggX2_loses_X1_copyFrom
set_option maxRecDepth 20000 in
theorem ggX2_loses_X1_letPass : GoodIn wsX2_loses wsX1_letPass := goodIn_r _ [58, 47, 32, 59, 60, 61, 62, 63, 64, 65, 28, 66, 53, 52, 45, 67, 68, 69, 70, 49, 46, 25, 20, 26, 71, 72, 73, 74, 40, 51, 75, 76, 77, 78, 50, 79, 80, 81, 82, 83, 84, 85, 86, 87, 88, 89, 90, 48, 91, 92, 93, 94, 95, 96, 41, 42, 43, 44, 97, 98, 99, 100, 31, 55, 101, 102, 103, 104, 33, 34, 35, 36, 105, 106, 107, 108, 109, 110, 111, 112, 113, 114, 115, 116, 117, 118, 119, 120, 121, 122, 123, 124, 125, 126, 127, 128, 129, 130, 131, 54, 132, 133, 134, 135, 145, 146, 147, 148, 149, 150, 151, 152, 153, 154, 155, 156, 157, 158] (by decide +kernel) (by decide +kernel)
set_option maxRecDepth 20000 in
theorem gX2_loses_X1_letPass_n179 : GoodIn wsX2_loses (wsX1_letPass) := ggX2_loses_X1_letPass
theorem dX2_loses_0 : decode cX2_loses 0 = .ok (.aload_n 0, 1) := by decide +kernel
theorem dX2_loses_1 : decode cX2_loses 1 = .ok (.getfield 26, 3) := by decide +kernel
theorem dX2_loses_4 : decode cX2_loses 4 = .ok (.iload_n 1, 1) := by decide +kernel
theorem dX2_loses_5 : decode cX2_loses 5 = .ok (.invokevirtual 168, 3) := by decide +kernel
theorem dX2_loses_8 : decode cX2_loses 8 = .ok (.ifCond .ne 13, 3) := by decide +kernel
theorem dX2_loses_11 : decode cX2_loses 11 = .ok (.new 38, 3) := by decide +kernel
theorem dX2_loses_14 : decode cX2_loses 14 = .ok (.dup, 1) := by decide +kernel
theorem dX2_loses_15 : decode cX2_loses 15 = .ok (.ldc 171, 2) := by decide +kernel
theorem dX2_loses_17 : decode cX2_loses 17 = .ok (.invokespecial 42, 3) := by decide +kernel
theorem dX2_loses_20 : decode cX2_loses 20 = .ok (.athrow, 1) := by decide +kernel
theorem dX2_loses_21 : decode cX2_loses 21 = .ok (.aload_n 0, 1) := by decide +kernel
theorem dX2_loses_22 : decode cX2_loses 22 = .ok (.getfield 26, 3) := by decide +kernel
theorem dX2_loses_25 : decode cX2_loses 25 = .ok (.iload_n 1, 1) := by decide +kernel
theorem dX2_loses_26 : decode cX2_loses 26 = .ok (.iconst 1, 1) := by decide +kernel
theorem dX2_loses_27 : decode cX2_loses 27 = .ok (.aload_n 0, 1) := by decide +kernel
theorem dX2_loses_28 : decode cX2_loses 28 = .ok (.getfield 16, 3) := by decide +kernel
theorem dX2_loses_31 : decode cX2_loses 31 = .ok (.invokevirtual 173, 3) := by decide +kernel
theorem dX2_loses_34 : decode cX2_loses 34 = .ok (.istore_n 2, 1) := by decide +kernel
theorem dX2_loses_35 : decode cX2_loses 35 = .ok (.aload_n 0, 1) := by decide +kernel
theorem dX2_loses_36 : decode cX2_loses 36 = .ok (.getfield 20, 3) := by decide +kernel
theorem dX2_loses_39 : decode cX2_loses 39 = .ok (.aload_n 0, 1) := by decide +kernel
theorem dX2_loses_40 : decode cX2_loses 40 = .ok (.getfield 16, 3) := by decide +kernel
theorem dX2_loses_43 : decode cX2_loses 43 = .ok (.invokevirtual 144, 3) := by decide +kernel
theorem dX2_loses_46 : decode cX2_loses 46 = .ok (.iconst 1, 1) := by decide +kernel
theorem dX2_loses_47 : decode cX2_loses 47 = .ok (.istore_n 3, 1) := by decide +kernel
theorem dX2_loses_48 : decode cX2_loses 48 = .ok (.iload_n 3, 1) := by decide +kernel
theorem dX2_loses_49 : decode cX2_loses 49 = .ok (.bipush 60, 2) := by decide +kernel
theorem dX2_loses_51 : decode cX2_loses 51 = .ok (.if_icmp .gt 37, 3) := by decide +kernel
theorem dX2_loses_54 : decode cX2_loses 54 = .ok (.aload_n 0, 1) := by decide +kernel
theorem dX2_loses_55 : decode cX2_loses 55 = .ok (.getfield 20, 3) := by decide +kernel
theorem dX2_loses_58 : decode cX2_loses 58 = .ok (.iconst 1, 1) := by decide +kernel
theorem dX2_loses_59 : decode cX2_loses 59 = .ok (.invokevirtual 179, 3) := by decide +kernel
theorem dX2_loses_62 : decode cX2_loses 62 = .ok (.pop, 1) := by decide +kernel
theorem dX2_loses_63 : decode cX2_loses 63 = .ok (.aload_n 0, 1) := by decide +kernel
theorem dX2_loses_64 : decode cX2_loses 64 = .ok (.getfield 26, 3) := by decide +kernel
theorem dX2_loses_67 : decode cX2_loses 67 = .ok (.iload_n 1, 1) := by decide +kernel
theorem dX2_loses_68 : decode cX2_loses 68 = .ok (.iconst 1, 1) := by decide +kernel
theorem dX2_loses_69 : decode cX2_loses 69 = .ok (.aload_n 0, 1) := by decide +kernel
theorem dX2_loses_70 : decode cX2_loses 70 = .ok (.getfield 20, 3) := by decide +kernel
theorem dX2_loses_73 : decode cX2_loses 73 = .ok (.invokevirtual 173, 3) := by decide +kernel
theorem dX2_loses_76 : decode cX2_loses 76 = .ok (.iload_n 2, 1) := by decide +kernel
theorem dX2_loses_77 : decode cX2_loses 77 = .ok (.if_icmp .ge 5, 3) := by decide +kernel
theorem dX2_loses_80 : decode cX2_loses 80 = .ok (.iload_n 3, 1) := by decide +kernel
theorem dX2_loses_81 : decode cX2_loses 81 = .ok (.ireturn, 1) := by decide +kernel
theorem dX2_loses_82 : decode cX2_loses 82 = .ok (.iinc 3 1, 3) := by decide +kernel
theorem dX2_loses_85 : decode cX2_loses 85 = .ok (.goto (-37), 3) := by decide +kernel
theorem dX2_loses_88 : decode cX2_loses 88 = .ok (.iconst (-1), 1) := by decide +kernel
theorem dX2_loses_89 : decode cX2_loses 89 = .ok (.ireturn, 1) := by decide +kernel
theorem dX2_winding_0 : decode cX2_winding 0 = .ok (.aload_n 0, 1) := by decide +kernel
theorem dX2_winding_1 : decode cX2_winding 1 = .ok (.getfield 16, 3) := by decide +kernel
theorem dX2_winding_4 : decode cX2_winding 4 = .ok (.getfield 123, 3) := by decide +kernel
theorem dX2_winding_7 : decode cX2_winding 7 = .ok (.i2d, 1) := by decide +kernel
theorem dX2_winding_8 : decode cX2_winding 8 = .ok (.ldc2_w 207, 3) := by decide +kernel
theorem dX2_winding_11 : decode cX2_winding 11 = .ok (.ddiv, 1) := by decide +kernel
theorem dX2_winding_12 : decode cX2_winding 12 = .ok (.dreturn, 1) := by decide +kernel
set_option maxRecDepth 20000 in
theorem ggX2_total_X1_lakes : GoodIn wsX2_total wsX1_lakes := goodIn_r _ [6, 7, 8, 34, 35, 36, 37, 38, 39, 40, 41, 42, 43, 44, 45, 46, 47] (by decide +kernel) (by decide +kernel)
set_option maxRecDepth 20000 in
theorem gX2_total_X1_lakes_n220 : GoodIn wsX2_total (wsX1_lakes) := ggX2_total_X1_lakes
set_option maxRecDepth 20000 in
theorem ggX2_total_X1_cellsWithStones : GoodIn wsX2_total wsX1_cellsWithStones := goodIn_r _ [11, 12, 34, 35, 36, 37, 38, 39, 40, 41, 42, 43, 44, 45, 46, 47] (by decide +kernel) (by decide +kernel)
set_option maxRecDepth 20000 in
theorem gX2_total_X1_cellsWithStones_n60 : GoodIn wsX2_total (wsX1_cellsWithStones) := ggX2_total_X1_cellsWithStones
set_option maxRecDepth 20000 in
theorem ggX2_total_X1_bends : GoodIn wsX2_total wsX1_bends := goodIn_r _ [15, 16, 17, 18, 19, 4, 20, 21, 22, 23, 24, 25, 34, 35, 36, 37, 38, 39, 40, 41, 42, 43, 44, 45, 46, 47] (by decide +kernel) (by decide +kernel)
set_option maxRecDepth 20000 in
theorem gX2_total_X1_bends_n223 : GoodIn wsX2_total (wsX1_bends) := ggX2_total_X1_bends
set_option maxRecDepth 20000 in
theorem ggX2_total_X1_allWear : GoodIn wsX2_total wsX1_allWear := goodIn_r _ [28, 29, 34, 35, 36, 37, 38, 39, 40, 41, 42, 43, 44, 45, 46, 47] (by decide +kernel) (by decide +kernel)
set_option maxRecDepth 20000 in
theorem gX2_total_X1_allWear_n226 : GoodIn wsX2_total (wsX1_allWear) := ggX2_total_X1_allWear
theorem dX2_total_0 : decode cX2_total 0 = .ok (.iload_n 1, 1) := by decide +kernel
theorem dX2_total_1 : decode cX2_total 1 = .ok (.tableswitch 99 0 6 #[43, 51, 59, 67, 75, 83, 91], 43) := by decide +kernel
theorem dX2_total_44 : decode cX2_total 44 = .ok (.aload_n 0, 1) := by decide +kernel
theorem dX2_total_45 : decode cX2_total 45 = .ok (.getfield 16, 3) := by decide +kernel
theorem dX2_total_48 : decode cX2_total 48 = .ok (.getfield 217, 3) := by decide +kernel
theorem dX2_total_51 : decode cX2_total 51 = .ok (.ireturn, 1) := by decide +kernel
theorem dX2_total_52 : decode cX2_total 52 = .ok (.aload_n 0, 1) := by decide +kernel
theorem dX2_total_53 : decode cX2_total 53 = .ok (.getfield 16, 3) := by decide +kernel
theorem dX2_total_56 : decode cX2_total 56 = .ok (.getfield 123, 3) := by decide +kernel
theorem dX2_total_59 : decode cX2_total 59 = .ok (.ireturn, 1) := by decide +kernel
theorem dX2_total_60 : decode cX2_total 60 = .ok (.aload_n 0, 1) := by decide +kernel
theorem dX2_total_61 : decode cX2_total 61 = .ok (.getfield 16, 3) := by decide +kernel
theorem dX2_total_64 : decode cX2_total 64 = .ok (.invokevirtual 220, 3) := by decide +kernel
theorem dX2_total_67 : decode cX2_total 67 = .ok (.ireturn, 1) := by decide +kernel
theorem dX2_total_68 : decode cX2_total 68 = .ok (.aload_n 0, 1) := by decide +kernel
theorem dX2_total_69 : decode cX2_total 69 = .ok (.getfield 16, 3) := by decide +kernel
theorem dX2_total_72 : decode cX2_total 72 = .ok (.getfield 189, 3) := by decide +kernel
theorem dX2_total_75 : decode cX2_total 75 = .ok (.ireturn, 1) := by decide +kernel
theorem dX2_total_76 : decode cX2_total 76 = .ok (.aload_n 0, 1) := by decide +kernel
theorem dX2_total_77 : decode cX2_total 77 = .ok (.getfield 26, 3) := by decide +kernel
theorem dX2_total_80 : decode cX2_total 80 = .ok (.getfield 159, 3) := by decide +kernel
theorem dX2_total_83 : decode cX2_total 83 = .ok (.ireturn, 1) := by decide +kernel
theorem dX2_total_84 : decode cX2_total 84 = .ok (.aload_n 0, 1) := by decide +kernel
theorem dX2_total_85 : decode cX2_total 85 = .ok (.getfield 16, 3) := by decide +kernel
theorem dX2_total_88 : decode cX2_total 88 = .ok (.invokevirtual 60, 3) := by decide +kernel
theorem dX2_total_91 : decode cX2_total 91 = .ok (.ireturn, 1) := by decide +kernel
theorem dX2_total_92 : decode cX2_total 92 = .ok (.aload_n 0, 1) := by decide +kernel
theorem dX2_total_93 : decode cX2_total 93 = .ok (.getfield 16, 3) := by decide +kernel
theorem dX2_total_96 : decode cX2_total 96 = .ok (.invokevirtual 223, 3) := by decide +kernel
theorem dX2_total_99 : decode cX2_total 99 = .ok (.ireturn, 1) := by decide +kernel
theorem dX2_total_100 : decode cX2_total 100 = .ok (.aload_n 0, 1) := by decide +kernel
theorem dX2_total_101 : decode cX2_total 101 = .ok (.getfield 16, 3) := by decide +kernel
theorem dX2_total_104 : decode cX2_total 104 = .ok (.invokevirtual 226, 3) := by decide +kernel
theorem dX2_total_107 : decode cX2_total 107 = .ok (.ireturn, 1) := by decide +kernel
