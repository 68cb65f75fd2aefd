theorem dX2_isGrade_0 : decode cX2_isGrade 0 = .ok (.iload_n 0, 1) := by decide +kernel
theorem dX2_isGrade_1 : decode cX2_isGrade 1 = .ok (.iconst 1, 1) := by decide +kernel
theorem dX2_isGrade_2 : decode cX2_isGrade 2 = .ok (.if_icmp .lt 13, 3) := by decide +kernel
theorem dX2_isGrade_5 : decode cX2_isGrade 5 = .ok (.iload_n 0, 1) := by decide +kernel
theorem dX2_isGrade_6 : decode cX2_isGrade 6 = .ok (.bipush 9, 2) := by decide +kernel
theorem dX2_isGrade_8 : decode cX2_isGrade 8 = .ok (.if_icmp .gt 7, 3) := by decide +kernel
theorem dX2_isGrade_11 : decode cX2_isGrade 11 = .ok (.iconst 1, 1) := by decide +kernel
theorem dX2_isGrade_12 : decode cX2_isGrade 12 = .ok (.goto 4, 3) := by decide +kernel
theorem dX2_isGrade_15 : decode cX2_isGrade 15 = .ok (.iconst 0, 1) := by decide +kernel
theorem dX2_isGrade_16 : decode cX2_isGrade 16 = .ok (.ireturn, 1) := by decide +kernel
theorem dX2_isSpan_0 : decode cX2_isSpan 0 = .ok (.iload_n 0, 1) := by decide +kernel
theorem dX2_isSpan_1 : decode cX2_isSpan 1 = .ok (.ifCond .lt 24, 3) := by decide +kernel
theorem dX2_isSpan_4 : decode cX2_isSpan 4 = .ok (.iload_n 0, 1) := by decide +kernel
theorem dX2_isSpan_5 : decode cX2_isSpan 5 = .ok (.iload_n 2, 1) := by decide +kernel
theorem dX2_isSpan_6 : decode cX2_isSpan 6 = .ok (.if_icmp .ge 19, 3) := by decide +kernel
theorem dX2_isSpan_9 : decode cX2_isSpan 9 = .ok (.iload_n 1, 1) := by decide +kernel
theorem dX2_isSpan_10 : decode cX2_isSpan 10 = .ok (.iconst 1, 1) := by decide +kernel
theorem dX2_isSpan_11 : decode cX2_isSpan 11 = .ok (.if_icmp .lt 14, 3) := by decide +kernel
theorem dX2_isSpan_14 : decode cX2_isSpan 14 = .ok (.iload_n 1, 1) := by decide +kernel
theorem dX2_isSpan_15 : decode cX2_isSpan 15 = .ok (.iload_n 2, 1) := by decide +kernel
theorem dX2_isSpan_16 : decode cX2_isSpan 16 = .ok (.iload_n 0, 1) := by decide +kernel
theorem dX2_isSpan_17 : decode cX2_isSpan 17 = .ok (.isub, 1) := by decide +kernel
theorem dX2_isSpan_18 : decode cX2_isSpan 18 = .ok (.if_icmp .gt 7, 3) := by decide +kernel
theorem dX2_isSpan_21 : decode cX2_isSpan 21 = .ok (.iconst 1, 1) := by decide +kernel
theorem dX2_isSpan_22 : decode cX2_isSpan 22 = .ok (.goto 4, 3) := by decide +kernel
theorem dX2_isSpan_25 : decode cX2_isSpan 25 = .ok (.iconst 0, 1) := by decide +kernel
theorem dX2_isSpan_26 : decode cX2_isSpan 26 = .ok (.ireturn, 1) := by decide +kernel
theorem dX2_isCell_0 : decode cX2_isCell 0 = .ok (.iload_n 0, 1) := by decide +kernel
theorem dX2_isCell_1 : decode cX2_isCell 1 = .ok (.ifCond .lt 14, 3) := by decide +kernel
theorem dX2_isCell_4 : decode cX2_isCell 4 = .ok (.iload_n 0, 1) := by decide +kernel
theorem dX2_isCell_5 : decode cX2_isCell 5 = .ok (.sipush 384, 3) := by decide +kernel
theorem dX2_isCell_8 : decode cX2_isCell 8 = .ok (.if_icmp .ge 7, 3) := by decide +kernel
theorem dX2_isCell_11 : decode cX2_isCell 11 = .ok (.iconst 1, 1) := by decide +kernel
theorem dX2_isCell_12 : decode cX2_isCell 12 = .ok (.goto 4, 3) := by decide +kernel
theorem dX2_isCell_15 : decode cX2_isCell 15 = .ok (.iconst 0, 1) := by decide +kernel
theorem dX2_isCell_16 : decode cX2_isCell 16 = .ok (.ireturn, 1) := by decide +kernel
theorem dX2_cellNumber_0 : decode cX2_cellNumber 0 = .ok (.iload_n 0, 1) := by decide +kernel
theorem dX2_cellNumber_1 : decode cX2_cellNumber 1 = .ok (.ifCond .lt 19, 3) := by decide +kernel
theorem dX2_cellNumber_4 : decode cX2_cellNumber 4 = .ok (.iload_n 0, 1) := by decide +kernel
theorem dX2_cellNumber_5 : decode cX2_cellNumber 5 = .ok (.bipush 24, 2) := by decide +kernel
theorem dX2_cellNumber_7 : decode cX2_cellNumber 7 = .ok (.if_icmp .ge 13, 3) := by decide +kernel
theorem dX2_cellNumber_10 : decode cX2_cellNumber 10 = .ok (.iload_n 1, 1) := by decide +kernel
theorem dX2_cellNumber_11 : decode cX2_cellNumber 11 = .ok (.ifCond .lt 9, 3) := by decide +kernel
theorem dX2_cellNumber_14 : decode cX2_cellNumber 14 = .ok (.iload_n 1, 1) := by decide +kernel
theorem dX2_cellNumber_15 : decode cX2_cellNumber 15 = .ok (.bipush 16, 2) := by decide +kernel
theorem dX2_cellNumber_17 : decode cX2_cellNumber 17 = .ok (.if_icmp .lt 5, 3) := by decide +kernel
theorem dX2_cellNumber_20 : decode cX2_cellNumber 20 = .ok (.iconst (-1), 1) := by decide +kernel
theorem dX2_cellNumber_21 : decode cX2_cellNumber 21 = .ok (.ireturn, 1) := by decide +kernel
theorem dX2_cellNumber_22 : decode cX2_cellNumber 22 = .ok (.iload_n 0, 1) := by decide +kernel
theorem dX2_cellNumber_23 : decode cX2_cellNumber 23 = .ok (.bipush 24, 2) := by decide +kernel
theorem dX2_cellNumber_25 : decode cX2_cellNumber 25 = .ok (.iload_n 1, 1) := by decide +kernel
theorem dX2_cellNumber_26 : decode cX2_cellNumber 26 = .ok (.imul, 1) := by decide +kernel
theorem dX2_cellNumber_27 : decode cX2_cellNumber 27 = .ok (.iadd, 1) := by decide +kernel
theorem dX2_cellNumber_28 : decode cX2_cellNumber 28 = .ok (.ireturn, 1) := by decide +kernel
theorem dX2_neighbour_0 : decode cX2_neighbour 0 = .ok (.iload_n 0, 1) := by decide +kernel
theorem dX2_neighbour_1 : decode cX2_neighbour 1 = .ok (.ifCond .lt 10, 3) := by decide +kernel
theorem dX2_neighbour_4 : decode cX2_neighbour 4 = .ok (.iload_n 0, 1) := by decide +kernel
theorem dX2_neighbour_5 : decode cX2_neighbour 5 = .ok (.sipush 384, 3) := by decide +kernel
theorem dX2_neighbour_8 : decode cX2_neighbour 8 = .ok (.if_icmp .lt 5, 3) := by decide +kernel
theorem dX2_neighbour_11 : decode cX2_neighbour 11 = .ok (.iconst (-1), 1) := by decide +kernel
theorem dX2_neighbour_12 : decode cX2_neighbour 12 = .ok (.ireturn, 1) := by decide +kernel
theorem dX2_neighbour_13 : decode cX2_neighbour 13 = .ok (.iload_n 0, 1) := by decide +kernel
theorem dX2_neighbour_14 : decode cX2_neighbour 14 = .ok (.bipush 24, 2) := by decide +kernel
theorem dX2_neighbour_16 : decode cX2_neighbour 16 = .ok (.irem, 1) := by decide +kernel
theorem dX2_neighbour_17 : decode cX2_neighbour 17 = .ok (.istore_n 2, 1) := by decide +kernel
theorem dX2_neighbour_18 : decode cX2_neighbour 18 = .ok (.iload_n 1, 1) := by decide +kernel
theorem dX2_neighbour_19 : decode cX2_neighbour 19 = .ok (.tableswitch 86 0 3 #[29, 44, 58, 74], 29) := by decide +kernel
theorem dX2_neighbour_48 : decode cX2_neighbour 48 = .ok (.iload_n 0, 1) := by decide +kernel
theorem dX2_neighbour_49 : decode cX2_neighbour 49 = .ok (.bipush 24, 2) := by decide +kernel
theorem dX2_neighbour_51 : decode cX2_neighbour 51 = .ok (.if_icmp .lt 10, 3) := by decide +kernel
theorem dX2_neighbour_54 : decode cX2_neighbour 54 = .ok (.iload_n 0, 1) := by decide +kernel
theorem dX2_neighbour_55 : decode cX2_neighbour 55 = .ok (.bipush 24, 2) := by decide +kernel
theorem dX2_neighbour_57 : decode cX2_neighbour 57 = .ok (.isub, 1) := by decide +kernel
theorem dX2_neighbour_58 : decode cX2_neighbour 58 = .ok (.goto 4, 3) := by decide +kernel
theorem dX2_neighbour_61 : decode cX2_neighbour 61 = .ok (.iconst (-1), 1) := by decide +kernel
theorem dX2_neighbour_62 : decode cX2_neighbour 62 = .ok (.ireturn, 1) := by decide +kernel
theorem dX2_neighbour_63 : decode cX2_neighbour 63 = .ok (.iload_n 2, 1) := by decide +kernel
theorem dX2_neighbour_64 : decode cX2_neighbour 64 = .ok (.bipush 23, 2) := by decide +kernel
theorem dX2_neighbour_66 : decode cX2_neighbour 66 = .ok (.if_icmp .ge 9, 3) := by decide +kernel
theorem dX2_neighbour_69 : decode cX2_neighbour 69 = .ok (.iload_n 0, 1) := by decide +kernel
theorem dX2_neighbour_70 : decode cX2_neighbour 70 = .ok (.iconst 1, 1) := by decide +kernel
theorem dX2_neighbour_71 : decode cX2_neighbour 71 = .ok (.iadd, 1) := by decide +kernel
theorem dX2_neighbour_72 : decode cX2_neighbour 72 = .ok (.goto 4, 3) := by decide +kernel
theorem dX2_neighbour_75 : decode cX2_neighbour 75 = .ok (.iconst (-1), 1) := by decide +kernel
theorem dX2_neighbour_76 : decode cX2_neighbour 76 = .ok (.ireturn, 1) := by decide +kernel
theorem dX2_neighbour_77 : decode cX2_neighbour 77 = .ok (.iload_n 0, 1) := by decide +kernel
theorem dX2_neighbour_78 : decode cX2_neighbour 78 = .ok (.sipush 360, 3) := by decide +kernel
theorem dX2_neighbour_81 : decode cX2_neighbour 81 = .ok (.if_icmp .ge 10, 3) := by decide +kernel
theorem dX2_neighbour_84 : decode cX2_neighbour 84 = .ok (.iload_n 0, 1) := by decide +kernel
theorem dX2_neighbour_85 : decode cX2_neighbour 85 = .ok (.bipush 24, 2) := by decide +kernel
theorem dX2_neighbour_87 : decode cX2_neighbour 87 = .ok (.iadd, 1) := by decide +kernel
theorem dX2_neighbour_88 : decode cX2_neighbour 88 = .ok (.goto 4, 3) := by decide +kernel
theorem dX2_neighbour_91 : decode cX2_neighbour 91 = .ok (.iconst (-1), 1) := by decide +kernel
theorem dX2_neighbour_92 : decode cX2_neighbour 92 = .ok (.ireturn, 1) := by decide +kernel
theorem dX2_neighbour_93 : decode cX2_neighbour 93 = .ok (.iload_n 2, 1) := by decide +kernel
theorem dX2_neighbour_94 : decode cX2_neighbour 94 = .ok (.ifCond .le 9, 3) := by decide +kernel
theorem dX2_neighbour_97 : decode cX2_neighbour 97 = .ok (.iload_n 0, 1) := by decide +kernel
theorem dX2_neighbour_98 : decode cX2_neighbour 98 = .ok (.iconst 1, 1) := by decide +kernel
theorem dX2_neighbour_99 : decode cX2_neighbour 99 = .ok (.isub, 1) := by decide +kernel
theorem dX2_neighbour_100 : decode cX2_neighbour 100 = .ok (.goto 4, 3) := by decide +kernel
theorem dX2_neighbour_103 : decode cX2_neighbour 103 = .ok (.iconst (-1), 1) := by decide +kernel
theorem dX2_neighbour_104 : decode cX2_neighbour 104 = .ok (.ireturn, 1) := by decide +kernel
theorem dX2_neighbour_105 : decode cX2_neighbour 105 = .ok (.iconst (-1), 1) := by decide +kernel
theorem dX2_neighbour_106 : decode cX2_neighbour 106 = .ok (.ireturn, 1) := by decide +kernel
set_option maxRecDepth 20000 in
theorem ggX2_directionTo_X2_neighbour : GoodIn wsX2_directionTo wsX2_neighbour := goodIn_r _ [4] (by decide +kernel) (by decide +kernel)
set_option maxRecDepth 20000 in
theorem gX2_directionTo_X2_neighbour : GoodIn wsX2_directionTo (va_wsS RX2 229 yX2_neighbour wsX2_neighbour) := goodIn_app (goodIn_of _ (by decide +kernel)) ggX2_directionTo_X2_neighbour
theorem dX2_directionTo_0 : decode cX2_directionTo 0 = .ok (.iconst 0, 1) := by decide +kernel
theorem dX2_directionTo_1 : decode cX2_directionTo 1 = .ok (.istore_n 2, 1) := by decide +kernel
theorem dX2_directionTo_2 : decode cX2_directionTo 2 = .ok (.iload_n 2, 1) := by decide +kernel
theorem dX2_directionTo_3 : decode cX2_directionTo 3 = .ok (.iconst 4, 1) := by decide +kernel
theorem dX2_directionTo_4 : decode cX2_directionTo 4 = .ok (.if_icmp .ge 27, 3) := by decide +kernel
theorem dX2_directionTo_7 : decode cX2_directionTo 7 = .ok (.iload_n 0, 1) := by decide +kernel
theorem dX2_directionTo_8 : decode cX2_directionTo 8 = .ok (.iload_n 2, 1) := by decide +kernel
theorem dX2_directionTo_9 : decode cX2_directionTo 9 = .ok (.invokestatic 229, 3) := by decide +kernel
theorem dX2_directionTo_12 : decode cX2_directionTo 12 = .ok (.istore_n 3, 1) := by decide +kernel
theorem dX2_directionTo_13 : decode cX2_directionTo 13 = .ok (.iload_n 3, 1) := by decide +kernel
theorem dX2_directionTo_14 : decode cX2_directionTo 14 = .ok (.iconst (-1), 1) := by decide +kernel
theorem dX2_directionTo_15 : decode cX2_directionTo 15 = .ok (.if_icmp .eq 10, 3) := by decide +kernel
theorem dX2_directionTo_18 : decode cX2_directionTo 18 = .ok (.iload_n 3, 1) := by decide +kernel
theorem dX2_directionTo_19 : decode cX2_directionTo 19 = .ok (.iload_n 1, 1) := by decide +kernel
theorem dX2_directionTo_20 : decode cX2_directionTo 20 = .ok (.if_icmp .ne 5, 3) := by decide +kernel
theorem dX2_directionTo_23 : decode cX2_directionTo 23 = .ok (.iload_n 2, 1) := by decide +kernel
theorem dX2_directionTo_24 : decode cX2_directionTo 24 = .ok (.ireturn, 1) := by decide +kernel
theorem dX2_directionTo_25 : decode cX2_directionTo 25 = .ok (.iinc 2 1, 3) := by decide +kernel
theorem dX2_directionTo_28 : decode cX2_directionTo 28 = .ok (.goto (-26), 3) := by decide +kernel
theorem dX2_directionTo_31 : decode cX2_directionTo 31 = .ok (.iconst (-1), 1) := by decide +kernel
theorem dX2_directionTo_32 : decode cX2_directionTo 32 = .ok (.ireturn, 1) := by decide +kernel
