theorem dX3_init_0 : decode cX3_init 0 = .ok (.aload_n 0, 1) := by decide +kernel
theorem dX3_init_1 : decode cX3_init 1 = .ok (.invokespecial 1, 3) := by decide +kernel
theorem dX3_init_4 : decode cX3_init 4 = .ok (.aload_n 0, 1) := by decide +kernel
theorem dX3_init_5 : decode cX3_init 5 = .ok (.sipush 384, 3) := by decide +kernel
theorem dX3_init_8 : decode cX3_init 8 = .ok (.newarray .int, 2) := by decide +kernel
theorem dX3_init_10 : decode cX3_init 10 = .ok (.putfield 9, 3) := by decide +kernel
theorem dX3_init_13 : decode cX3_init 13 = .ok (.aload_n 0, 1) := by decide +kernel
theorem dX3_init_14 : decode cX3_init 14 = .ok (.sipush 384, 3) := by decide +kernel
theorem dX3_init_17 : decode cX3_init 17 = .ok (.newarray .boolean, 2) := by decide +kernel
theorem dX3_init_19 : decode cX3_init 19 = .ok (.putfield 13, 3) := by decide +kernel
theorem dX3_init_22 : decode cX3_init 22 = .ok (.aload_n 0, 1) := by decide +kernel
theorem dX3_init_23 : decode cX3_init 23 = .ok (.bipush 12, 2) := by decide +kernel
theorem dX3_init_25 : decode cX3_init 25 = .ok (.newarray .int, 2) := by decide +kernel
theorem dX3_init_27 : decode cX3_init 27 = .ok (.putfield 17, 3) := by decide +kernel
theorem dX3_init_30 : decode cX3_init 30 = .ok (.aload_n 0, 1) := by decide +kernel
theorem dX3_init_31 : decode cX3_init 31 = .ok (.bipush 24, 2) := by decide +kernel
theorem dX3_init_33 : decode cX3_init 33 = .ok (.newarray .int, 2) := by decide +kernel
theorem dX3_init_35 : decode cX3_init 35 = .ok (.putfield 20, 3) := by decide +kernel
theorem dX3_init_38 : decode cX3_init 38 = .ok (.aload_n 0, 1) := by decide +kernel
theorem dX3_init_39 : decode cX3_init 39 = .ok (.sipush 152, 3) := by decide +kernel
theorem dX3_init_42 : decode cX3_init 42 = .ok (.newarray .int, 2) := by decide +kernel
theorem dX3_init_44 : decode cX3_init 44 = .ok (.putfield 23, 3) := by decide +kernel
theorem dX3_init_47 : decode cX3_init 47 = .ok (.aload_n 0, 1) := by decide +kernel
theorem dX3_init_48 : decode cX3_init 48 = .ok (.sipush 384, 3) := by decide +kernel
theorem dX3_init_51 : decode cX3_init 51 = .ok (.newarray .int, 2) := by decide +kernel
theorem dX3_init_53 : decode cX3_init 53 = .ok (.putfield 26, 3) := by decide +kernel
theorem dX3_init_56 : decode cX3_init 56 = .ok (.aload_n 0, 1) := by decide +kernel
theorem dX3_init_57 : decode cX3_init 57 = .ok (.sipush 384, 3) := by decide +kernel
theorem dX3_init_60 : decode cX3_init 60 = .ok (.newarray .int, 2) := by decide +kernel
theorem dX3_init_62 : decode cX3_init 62 = .ok (.putfield 29, 3) := by decide +kernel
theorem dX3_init_65 : decode cX3_init 65 = .ok (.aload_n 0, 1) := by decide +kernel
theorem dX3_init_66 : decode cX3_init 66 = .ok (.sipush 384, 3) := by decide +kernel
theorem dX3_init_69 : decode cX3_init 69 = .ok (.newarray .int, 2) := by decide +kernel
theorem dX3_init_71 : decode cX3_init 71 = .ok (.putfield 32, 3) := by decide +kernel
theorem dX3_init_74 : decode cX3_init 74 = .ok (.aload_n 0, 1) := by decide +kernel
theorem dX3_init_75 : decode cX3_init 75 = .ok (.iconst 3, 1) := by decide +kernel
theorem dX3_init_76 : decode cX3_init 76 = .ok (.newarray .int, 2) := by decide +kernel
theorem dX3_init_78 : decode cX3_init 78 = .ok (.dup, 1) := by decide +kernel
theorem dX3_init_79 : decode cX3_init 79 = .ok (.iconst 0, 1) := by decide +kernel
theorem dX3_init_80 : decode cX3_init 80 = .ok (.iconst 0, 1) := by decide +kernel
theorem dX3_init_81 : decode cX3_init 81 = .ok (.iastore, 1) := by decide +kernel
theorem dX3_init_82 : decode cX3_init 82 = .ok (.dup, 1) := by decide +kernel
theorem dX3_init_83 : decode cX3_init 83 = .ok (.iconst 1, 1) := by decide +kernel
theorem dX3_init_84 : decode cX3_init 84 = .ok (.iconst 0, 1) := by decide +kernel
theorem dX3_init_85 : decode cX3_init 85 = .ok (.iastore, 1) := by decide +kernel
theorem dX3_init_86 : decode cX3_init 86 = .ok (.dup, 1) := by decide +kernel
theorem dX3_init_87 : decode cX3_init 87 = .ok (.iconst 2, 1) := by decide +kernel
theorem dX3_init_88 : decode cX3_init 88 = .ok (.bipush 24, 2) := by decide +kernel
theorem dX3_init_90 : decode cX3_init 90 = .ok (.iastore, 1) := by decide +kernel
theorem dX3_init_91 : decode cX3_init 91 = .ok (.putfield 35, 3) := by decide +kernel
theorem dX3_init_94 : decode cX3_init 94 = .ok (.iconst 0, 1) := by decide +kernel
theorem dX3_init_95 : decode cX3_init 95 = .ok (.istore_n 1, 1) := by decide +kernel
theorem dX3_init_96 : decode cX3_init 96 = .ok (.iload_n 1, 1) := by decide +kernel
theorem dX3_init_97 : decode cX3_init 97 = .ok (.sipush 384, 3) := by decide +kernel
theorem dX3_init_100 : decode cX3_init 100 = .ok (.if_icmp .ge 23, 3) := by decide +kernel
theorem dX3_init_103 : decode cX3_init 103 = .ok (.aload_n 0, 1) := by decide +kernel
theorem dX3_init_104 : decode cX3_init 104 = .ok (.getfield 9, 3) := by decide +kernel
theorem dX3_init_107 : decode cX3_init 107 = .ok (.iload_n 1, 1) := by decide +kernel
theorem dX3_init_108 : decode cX3_init 108 = .ok (.iconst 3, 1) := by decide +kernel
theorem dX3_init_109 : decode cX3_init 109 = .ok (.iastore, 1) := by decide +kernel
theorem dX3_init_110 : decode cX3_init 110 = .ok (.aload_n 0, 1) := by decide +kernel
theorem dX3_init_111 : decode cX3_init 111 = .ok (.getfield 26, 3) := by decide +kernel
theorem dX3_init_114 : decode cX3_init 114 = .ok (.iload_n 1, 1) := by decide +kernel
theorem dX3_init_115 : decode cX3_init 115 = .ok (.iconst (-1), 1) := by decide +kernel
theorem dX3_init_116 : decode cX3_init 116 = .ok (.iastore, 1) := by decide +kernel
theorem dX3_init_117 : decode cX3_init 117 = .ok (.iinc 1 1, 3) := by decide +kernel
theorem dX3_init_120 : decode cX3_init 120 = .ok (.goto (-24), 3) := by decide +kernel
theorem dX3_init_123 : decode cX3_init 123 = .ok (.iconst 0, 1) := by decide +kernel
theorem dX3_init_124 : decode cX3_init 124 = .ok (.istore_n 1, 1) := by decide +kernel
theorem dX3_init_125 : decode cX3_init 125 = .ok (.iload_n 1, 1) := by decide +kernel
theorem dX3_init_126 : decode cX3_init 126 = .ok (.bipush 12, 2) := by decide +kernel
theorem dX3_init_128 : decode cX3_init 128 = .ok (.if_icmp .ge 16, 3) := by decide +kernel
theorem dX3_init_131 : decode cX3_init 131 = .ok (.aload_n 0, 1) := by decide +kernel
theorem dX3_init_132 : decode cX3_init 132 = .ok (.getfield 17, 3) := by decide +kernel
theorem dX3_init_135 : decode cX3_init 135 = .ok (.iload_n 1, 1) := by decide +kernel
theorem dX3_init_136 : decode cX3_init 136 = .ok (.iconst 3, 1) := by decide +kernel
theorem dX3_init_137 : decode cX3_init 137 = .ok (.iastore, 1) := by decide +kernel
theorem dX3_init_138 : decode cX3_init 138 = .ok (.iinc 1 1, 3) := by decide +kernel
theorem dX3_init_141 : decode cX3_init 141 = .ok (.goto (-16), 3) := by decide +kernel
theorem dX3_init_144 : decode cX3_init 144 = .ok (.iconst 0, 1) := by decide +kernel
theorem dX3_init_145 : decode cX3_init 145 = .ok (.istore_n 1, 1) := by decide +kernel
theorem dX3_init_146 : decode cX3_init 146 = .ok (.iload_n 1, 1) := by decide +kernel
theorem dX3_init_147 : decode cX3_init 147 = .ok (.bipush 24, 2) := by decide +kernel
theorem dX3_init_149 : decode cX3_init 149 = .ok (.if_icmp .ge 20, 3) := by decide +kernel
theorem dX3_init_152 : decode cX3_init 152 = .ok (.aload_n 0, 1) := by decide +kernel
theorem dX3_init_153 : decode cX3_init 153 = .ok (.getfield 23, 3) := by decide +kernel
theorem dX3_init_156 : decode cX3_init 156 = .ok (.iload_n 1, 1) := by decide +kernel
theorem dX3_init_157 : decode cX3_init 157 = .ok (.iload_n 1, 1) := by decide +kernel
theorem dX3_init_158 : decode cX3_init 158 = .ok (.sipush 192, 3) := by decide +kernel
theorem dX3_init_161 : decode cX3_init 161 = .ok (.iadd, 1) := by decide +kernel
theorem dX3_init_162 : decode cX3_init 162 = .ok (.iastore, 1) := by decide +kernel
theorem dX3_init_163 : decode cX3_init 163 = .ok (.iinc 1 1, 3) := by decide +kernel
theorem dX3_init_166 : decode cX3_init 166 = .ok (.goto (-20), 3) := by decide +kernel
theorem dX3_init_169 : decode cX3_init 169 = .ok (.aload_n 0, 1) := by decide +kernel
theorem dX3_init_170 : decode cX3_init 170 = .ok (.invokevirtual 38, 3) := by decide +kernel
theorem dX3_init_173 : decode cX3_init 173 = .ok (.return_, 1) := by decide +kernel
theorem dX3_thrown_0 : decode cX3_thrown 0 = .ok (.aload_n 0, 1) := by decide +kernel
theorem dX3_thrown_1 : decode cX3_thrown 1 = .ok (.getfield 41, 3) := by decide +kernel
theorem dX3_thrown_4 : decode cX3_thrown 4 = .ok (.ireturn, 1) := by decide +kernel
theorem dX3_fail_0 : decode cX3_fail 0 = .ok (.aload_n 0, 1) := by decide +kernel
theorem dX3_fail_1 : decode cX3_fail 1 = .ok (.iload_n 1, 1) := by decide +kernel
theorem dX3_fail_2 : decode cX3_fail 2 = .ok (.putfield 41, 3) := by decide +kernel
theorem dX3_fail_5 : decode cX3_fail 5 = .ok (.iconst 0, 1) := by decide +kernel
theorem dX3_fail_6 : decode cX3_fail 6 = .ok (.ireturn, 1) := by decide +kernel
theorem dX3_isIn_0 : decode cX3_isIn 0 = .ok (.iload_n 0, 1) := by decide +kernel
theorem dX3_isIn_1 : decode cX3_isIn 1 = .ok (.iload_n 1, 1) := by decide +kernel
theorem dX3_isIn_2 : decode cX3_isIn 2 = .ok (.if_icmp .lt 12, 3) := by decide +kernel
theorem dX3_isIn_5 : decode cX3_isIn 5 = .ok (.iload_n 0, 1) := by decide +kernel
theorem dX3_isIn_6 : decode cX3_isIn 6 = .ok (.iload_n 2, 1) := by decide +kernel
theorem dX3_isIn_7 : decode cX3_isIn 7 = .ok (.if_icmp .gt 7, 3) := by decide +kernel
theorem dX3_isIn_10 : decode cX3_isIn 10 = .ok (.iconst 1, 1) := by decide +kernel
theorem dX3_isIn_11 : decode cX3_isIn 11 = .ok (.goto 4, 3) := by decide +kernel
theorem dX3_isIn_14 : decode cX3_isIn 14 = .ok (.iconst 0, 1) := by decide +kernel
theorem dX3_isIn_15 : decode cX3_isIn 15 = .ok (.ireturn, 1) := by decide +kernel
set_option maxRecDepth 20000 in
theorem ggX3_isCell_X3_isIn : GoodIn wsX3_isCell wsX3_isIn := goodIn_r _ [4] (by decide +kernel) (by decide +kernel)
set_option maxRecDepth 20000 in
theorem gX3_isCell_X3_isIn : GoodIn wsX3_isCell (va_wsS RX3 45 yX3_isIn wsX3_isIn) := goodIn_app (goodIn_of _ (by decide +kernel)) ggX3_isCell_X3_isIn
theorem dX3_isCell_0 : decode cX3_isCell 0 = .ok (.iload_n 0, 1) := by decide +kernel
theorem dX3_isCell_1 : decode cX3_isCell 1 = .ok (.iconst 0, 1) := by decide +kernel
theorem dX3_isCell_2 : decode cX3_isCell 2 = .ok (.bipush 23, 2) := by decide +kernel
theorem dX3_isCell_4 : decode cX3_isCell 4 = .ok (.invokestatic 45, 3) := by decide +kernel
theorem dX3_isCell_7 : decode cX3_isCell 7 = .ok (.ifCond .eq 17, 3) := by decide +kernel
theorem dX3_isCell_10 : decode cX3_isCell 10 = .ok (.iload_n 1, 1) := by decide +kernel
theorem dX3_isCell_11 : decode cX3_isCell 11 = .ok (.iconst 0, 1) := by decide +kernel
theorem dX3_isCell_12 : decode cX3_isCell 12 = .ok (.bipush 15, 2) := by decide +kernel
theorem dX3_isCell_14 : decode cX3_isCell 14 = .ok (.invokestatic 45, 3) := by decide +kernel
theorem dX3_isCell_17 : decode cX3_isCell 17 = .ok (.ifCond .eq 7, 3) := by decide +kernel
theorem dX3_isCell_20 : decode cX3_isCell 20 = .ok (.iconst 1, 1) := by decide +kernel
theorem dX3_isCell_21 : decode cX3_isCell 21 = .ok (.goto 4, 3) := by decide +kernel
theorem dX3_isCell_24 : decode cX3_isCell 24 = .ok (.iconst 0, 1) := by decide +kernel
theorem dX3_isCell_25 : decode cX3_isCell 25 = .ok (.ireturn, 1) := by decide +kernel
theorem dX3_length_0 : decode cX3_length 0 = .ok (.aload_n 0, 1) := by decide +kernel
theorem dX3_length_1 : decode cX3_length 1 = .ok (.getfield 35, 3) := by decide +kernel
theorem dX3_length_4 : decode cX3_length 4 = .ok (.iconst 2, 1) := by decide +kernel
theorem dX3_length_5 : decode cX3_length 5 = .ok (.iaload, 1) := by decide +kernel
theorem dX3_length_6 : decode cX3_length 6 = .ok (.ireturn, 1) := by decide +kernel
set_option maxRecDepth 20000 in
theorem ggX3_isCourse_X3_length : GoodIn wsX3_isCourse wsX3_length := goodIn_r _ [5, 6, 10, 11, 12, 13, 14, 15, 16, 17, 18, 19, 20] (by decide +kernel) (by decide +kernel)
set_option maxRecDepth 20000 in
theorem gX3_isCourse_X3_length : GoodIn wsX3_isCourse (wsV RX3 49 RX3 yX3_length wsX3_length) := goodIn_app (goodIn_of _ (by decide +kernel)) ggX3_isCourse_X3_length
set_option maxRecDepth 20000 in
theorem ggX3_isCourse_X3_isIn : GoodIn wsX3_isCourse wsX3_isIn := goodIn_r _ [9] (by decide +kernel) (by decide +kernel)
set_option maxRecDepth 20000 in
theorem gX3_isCourse_X3_isIn : GoodIn wsX3_isCourse (va_wsS RX3 45 yX3_isIn wsX3_isIn) := goodIn_app (goodIn_of _ (by decide +kernel)) ggX3_isCourse_X3_isIn
theorem dX3_isCourse_0 : decode cX3_isCourse 0 = .ok (.iload_n 1, 1) := by decide +kernel
theorem dX3_isCourse_1 : decode cX3_isCourse 1 = .ok (.iconst 0, 1) := by decide +kernel
theorem dX3_isCourse_2 : decode cX3_isCourse 2 = .ok (.aload_n 0, 1) := by decide +kernel
theorem dX3_isCourse_3 : decode cX3_isCourse 3 = .ok (.invokevirtual 49, 3) := by decide +kernel
theorem dX3_isCourse_6 : decode cX3_isCourse 6 = .ok (.iconst 1, 1) := by decide +kernel
theorem dX3_isCourse_7 : decode cX3_isCourse 7 = .ok (.isub, 1) := by decide +kernel
theorem dX3_isCourse_8 : decode cX3_isCourse 8 = .ok (.invokestatic 45, 3) := by decide +kernel
theorem dX3_isCourse_11 : decode cX3_isCourse 11 = .ok (.ireturn, 1) := by decide +kernel
set_option maxRecDepth 20000 in
theorem ggX3_place_X3_length : GoodIn wsX3_place wsX3_length := goodIn_r _ [7, 8, 9, 10, 11, 12, 13, 14, 15, 16, 17, 18, 19] (by decide +kernel) (by decide +kernel)
set_option maxRecDepth 20000 in
theorem gX3_place_X3_length : GoodIn wsX3_place (wsV RX3 49 RX3 yX3_length wsX3_length) := goodIn_app (goodIn_of _ (by decide +kernel)) ggX3_place_X3_length
theorem dX3_place_0 : decode cX3_place 0 = .ok (.iconst 0, 1) := by decide +kernel
theorem dX3_place_1 : decode cX3_place 1 = .ok (.istore_n 1, 1) := by decide +kernel
theorem dX3_place_2 : decode cX3_place 2 = .ok (.iload_n 1, 1) := by decide +kernel
theorem dX3_place_3 : decode cX3_place 3 = .ok (.sipush 384, 3) := by decide +kernel
theorem dX3_place_6 : decode cX3_place 6 = .ok (.if_icmp .ge 16, 3) := by decide +kernel
theorem dX3_place_9 : decode cX3_place 9 = .ok (.aload_n 0, 1) := by decide +kernel
theorem dX3_place_10 : decode cX3_place 10 = .ok (.getfield 26, 3) := by decide +kernel
theorem dX3_place_13 : decode cX3_place 13 = .ok (.iload_n 1, 1) := by decide +kernel
theorem dX3_place_14 : decode cX3_place 14 = .ok (.iconst (-1), 1) := by decide +kernel
theorem dX3_place_15 : decode cX3_place 15 = .ok (.iastore, 1) := by decide +kernel
theorem dX3_place_16 : decode cX3_place 16 = .ok (.iinc 1 1, 3) := by decide +kernel
theorem dX3_place_19 : decode cX3_place 19 = .ok (.goto (-17), 3) := by decide +kernel
theorem dX3_place_22 : decode cX3_place 22 = .ok (.iconst 0, 1) := by decide +kernel
theorem dX3_place_23 : decode cX3_place 23 = .ok (.istore_n 1, 1) := by decide +kernel
theorem dX3_place_24 : decode cX3_place 24 = .ok (.iload_n 1, 1) := by decide +kernel
theorem dX3_place_25 : decode cX3_place 25 = .ok (.aload_n 0, 1) := by decide +kernel
theorem dX3_place_26 : decode cX3_place 26 = .ok (.invokevirtual 49, 3) := by decide +kernel
theorem dX3_place_29 : decode cX3_place 29 = .ok (.if_icmp .ge 21, 3) := by decide +kernel
theorem dX3_place_32 : decode cX3_place 32 = .ok (.aload_n 0, 1) := by decide +kernel
theorem dX3_place_33 : decode cX3_place 33 = .ok (.getfield 26, 3) := by decide +kernel
theorem dX3_place_36 : decode cX3_place 36 = .ok (.aload_n 0, 1) := by decide +kernel
theorem dX3_place_37 : decode cX3_place 37 = .ok (.getfield 23, 3) := by decide +kernel
theorem dX3_place_40 : decode cX3_place 40 = .ok (.iload_n 1, 1) := by decide +kernel
theorem dX3_place_41 : decode cX3_place 41 = .ok (.iaload, 1) := by decide +kernel
theorem dX3_place_42 : decode cX3_place 42 = .ok (.iload_n 1, 1) := by decide +kernel
theorem dX3_place_43 : decode cX3_place 43 = .ok (.iastore, 1) := by decide +kernel
theorem dX3_place_44 : decode cX3_place 44 = .ok (.iinc 1 1, 3) := by decide +kernel
theorem dX3_place_47 : decode cX3_place 47 = .ok (.goto (-23), 3) := by decide +kernel
theorem dX3_place_50 : decode cX3_place 50 = .ok (.return_, 1) := by decide +kernel
set_option maxRecDepth 20000 in
theorem ggX3_beside_X3_isCell : GoodIn wsX3_beside wsX3_isCell := goodIn_r _ [4, 5, 6, 3, 7] (by decide +kernel) (by decide +kernel)
set_option maxRecDepth 20000 in
theorem gX3_beside_X3_isCell : GoodIn wsX3_beside (va_wsS RX3 53 yX3_isCell wsX3_isCell) := goodIn_app (goodIn_of _ (by decide +kernel)) ggX3_beside_X3_isCell
theorem dX3_beside_0 : decode cX3_beside 0 = .ok (.iload_n 0, 1) := by decide +kernel
theorem dX3_beside_1 : decode cX3_beside 1 = .ok (.bipush 24, 2) := by decide +kernel
theorem dX3_beside_3 : decode cX3_beside 3 = .ok (.irem, 1) := by decide +kernel
theorem dX3_beside_4 : decode cX3_beside 4 = .ok (.iload_n 1, 1) := by decide +kernel
theorem dX3_beside_5 : decode cX3_beside 5 = .ok (.iconst 1, 1) := by decide +kernel
theorem dX3_beside_6 : decode cX3_beside 6 = .ok (.if_icmp .ne 7, 3) := by decide +kernel
theorem dX3_beside_9 : decode cX3_beside 9 = .ok (.iconst 1, 1) := by decide +kernel
theorem dX3_beside_10 : decode cX3_beside 10 = .ok (.goto 13, 3) := by decide +kernel
theorem dX3_beside_13 : decode cX3_beside 13 = .ok (.iload_n 1, 1) := by decide +kernel
theorem dX3_beside_14 : decode cX3_beside 14 = .ok (.iconst 3, 1) := by decide +kernel
theorem dX3_beside_15 : decode cX3_beside 15 = .ok (.if_icmp .ne 7, 3) := by decide +kernel
theorem dX3_beside_18 : decode cX3_beside 18 = .ok (.iconst (-1), 1) := by decide +kernel
theorem dX3_beside_19 : decode cX3_beside 19 = .ok (.goto 4, 3) := by decide +kernel
theorem dX3_beside_22 : decode cX3_beside 22 = .ok (.iconst 0, 1) := by decide +kernel
theorem dX3_beside_23 : decode cX3_beside 23 = .ok (.iadd, 1) := by decide +kernel
theorem dX3_beside_24 : decode cX3_beside 24 = .ok (.istore_n 2, 1) := by decide +kernel
theorem dX3_beside_25 : decode cX3_beside 25 = .ok (.iload_n 0, 1) := by decide +kernel
theorem dX3_beside_26 : decode cX3_beside 26 = .ok (.bipush 24, 2) := by decide +kernel
theorem dX3_beside_28 : decode cX3_beside 28 = .ok (.idiv, 1) := by decide +kernel
theorem dX3_beside_29 : decode cX3_beside 29 = .ok (.iload_n 1, 1) := by decide +kernel
theorem dX3_beside_30 : decode cX3_beside 30 = .ok (.iconst 2, 1) := by decide +kernel
theorem dX3_beside_31 : decode cX3_beside 31 = .ok (.if_icmp .ne 7, 3) := by decide +kernel
theorem dX3_beside_34 : decode cX3_beside 34 = .ok (.iconst 1, 1) := by decide +kernel
theorem dX3_beside_35 : decode cX3_beside 35 = .ok (.goto 12, 3) := by decide +kernel
theorem dX3_beside_38 : decode cX3_beside 38 = .ok (.iload_n 1, 1) := by decide +kernel
theorem dX3_beside_39 : decode cX3_beside 39 = .ok (.ifCond .ne 7, 3) := by decide +kernel
theorem dX3_beside_42 : decode cX3_beside 42 = .ok (.iconst (-1), 1) := by decide +kernel
theorem dX3_beside_43 : decode cX3_beside 43 = .ok (.goto 4, 3) := by decide +kernel
theorem dX3_beside_46 : decode cX3_beside 46 = .ok (.iconst 0, 1) := by decide +kernel
theorem dX3_beside_47 : decode cX3_beside 47 = .ok (.iadd, 1) := by decide +kernel
theorem dX3_beside_48 : decode cX3_beside 48 = .ok (.istore_n 3, 1) := by decide +kernel
theorem dX3_beside_49 : decode cX3_beside 49 = .ok (.iload_n 2, 1) := by decide +kernel
theorem dX3_beside_50 : decode cX3_beside 50 = .ok (.iload_n 3, 1) := by decide +kernel
theorem dX3_beside_51 : decode cX3_beside 51 = .ok (.invokestatic 53, 3) := by decide +kernel
theorem dX3_beside_54 : decode cX3_beside 54 = .ok (.ifCond .eq 12, 3) := by decide +kernel
theorem dX3_beside_57 : decode cX3_beside 57 = .ok (.iload_n 2, 1) := by decide +kernel
theorem dX3_beside_58 : decode cX3_beside 58 = .ok (.bipush 24, 2) := by decide +kernel
theorem dX3_beside_60 : decode cX3_beside 60 = .ok (.iload_n 3, 1) := by decide +kernel
theorem dX3_beside_61 : decode cX3_beside 61 = .ok (.imul, 1) := by decide +kernel
theorem dX3_beside_62 : decode cX3_beside 62 = .ok (.iadd, 1) := by decide +kernel
theorem dX3_beside_63 : decode cX3_beside 63 = .ok (.goto 4, 3) := by decide +kernel
theorem dX3_beside_66 : decode cX3_beside 66 = .ok (.iconst (-1), 1) := by decide +kernel
theorem dX3_beside_67 : decode cX3_beside 67 = .ok (.ireturn, 1) := by decide +kernel
set_option maxRecDepth 20000 in
theorem ggX3_setHardness_X3_isCell : GoodIn wsX3_setHardness wsX3_isCell := goodIn_r _ [6, 7, 8, 5, 9] (by decide +kernel) (by decide +kernel)
set_option maxRecDepth 20000 in
theorem gX3_setHardness_X3_isCell : GoodIn wsX3_setHardness (va_wsS RX3 53 yX3_isCell wsX3_isCell) := goodIn_app (goodIn_of _ (by decide +kernel)) ggX3_setHardness_X3_isCell
set_option maxRecDepth 20000 in
theorem ggX3_setHardness_X3_fail : GoodIn wsX3_setHardness wsX3_fail := goodIn_r _ [13, 1, 14, 15, 16, 17, 18, 19, 20, 21, 22, 23, 24] (by decide +kernel) (by decide +kernel)
set_option maxRecDepth 20000 in
theorem gX3_setHardness_X3_fail : GoodIn wsX3_setHardness (wsV RX3 57 RX3 yX3_fail wsX3_fail) := goodIn_app (goodIn_of _ (by decide +kernel)) ggX3_setHardness_X3_fail
set_option maxRecDepth 20000 in
theorem ggX3_setHardness_X3_isIn : GoodIn wsX3_setHardness wsX3_isIn := goodIn_r _ [9] (by decide +kernel) (by decide +kernel)
set_option maxRecDepth 20000 in
theorem gX3_setHardness_X3_isIn : GoodIn wsX3_setHardness (va_wsS RX3 45 yX3_isIn wsX3_isIn) := goodIn_app (goodIn_of _ (by decide +kernel)) ggX3_setHardness_X3_isIn
theorem dX3_setHardness_0 : decode cX3_setHardness 0 = .ok (.aload_n 0, 1) := by decide +kernel
theorem dX3_setHardness_1 : decode cX3_setHardness 1 = .ok (.iconst 0, 1) := by decide +kernel
theorem dX3_setHardness_2 : decode cX3_setHardness 2 = .ok (.putfield 41, 3) := by decide +kernel
theorem dX3_setHardness_5 : decode cX3_setHardness 5 = .ok (.iload_n 1, 1) := by decide +kernel
theorem dX3_setHardness_6 : decode cX3_setHardness 6 = .ok (.iload_n 2, 1) := by decide +kernel
theorem dX3_setHardness_7 : decode cX3_setHardness 7 = .ok (.invokestatic 53, 3) := by decide +kernel
theorem dX3_setHardness_10 : decode cX3_setHardness 10 = .ok (.ifCond .ne 9, 3) := by decide +kernel
theorem dX3_setHardness_13 : decode cX3_setHardness 13 = .ok (.aload_n 0, 1) := by decide +kernel
theorem dX3_setHardness_14 : decode cX3_setHardness 14 = .ok (.iconst 1, 1) := by decide +kernel
theorem dX3_setHardness_15 : decode cX3_setHardness 15 = .ok (.invokevirtual 57, 3) := by decide +kernel
theorem dX3_setHardness_18 : decode cX3_setHardness 18 = .ok (.ireturn, 1) := by decide +kernel
theorem dX3_setHardness_19 : decode cX3_setHardness 19 = .ok (.iload_n 3, 1) := by decide +kernel
theorem dX3_setHardness_20 : decode cX3_setHardness 20 = .ok (.iconst 1, 1) := by decide +kernel
theorem dX3_setHardness_21 : decode cX3_setHardness 21 = .ok (.bipush 9, 2) := by decide +kernel
theorem dX3_setHardness_23 : decode cX3_setHardness 23 = .ok (.invokestatic 45, 3) := by decide +kernel
theorem dX3_setHardness_26 : decode cX3_setHardness 26 = .ok (.ifCond .ne 9, 3) := by decide +kernel
theorem dX3_setHardness_29 : decode cX3_setHardness 29 = .ok (.aload_n 0, 1) := by decide +kernel
theorem dX3_setHardness_30 : decode cX3_setHardness 30 = .ok (.iconst 2, 1) := by decide +kernel
theorem dX3_setHardness_31 : decode cX3_setHardness 31 = .ok (.invokevirtual 57, 3) := by decide +kernel
theorem dX3_setHardness_34 : decode cX3_setHardness 34 = .ok (.ireturn, 1) := by decide +kernel
theorem dX3_setHardness_35 : decode cX3_setHardness 35 = .ok (.aload_n 0, 1) := by decide +kernel
theorem dX3_setHardness_36 : decode cX3_setHardness 36 = .ok (.getfield 9, 3) := by decide +kernel
theorem dX3_setHardness_39 : decode cX3_setHardness 39 = .ok (.iload_n 1, 1) := by decide +kernel
theorem dX3_setHardness_40 : decode cX3_setHardness 40 = .ok (.bipush 24, 2) := by decide +kernel
theorem dX3_setHardness_42 : decode cX3_setHardness 42 = .ok (.iload_n 2, 1) := by decide +kernel
theorem dX3_setHardness_43 : decode cX3_setHardness 43 = .ok (.imul, 1) := by decide +kernel
theorem dX3_setHardness_44 : decode cX3_setHardness 44 = .ok (.iadd, 1) := by decide +kernel
theorem dX3_setHardness_45 : decode cX3_setHardness 45 = .ok (.iaload, 1) := by decide +kernel
theorem dX3_setHardness_46 : decode cX3_setHardness 46 = .ok (.istore 4, 2) := by decide +kernel
theorem dX3_setHardness_48 : decode cX3_setHardness 48 = .ok (.aload_n 0, 1) := by decide +kernel
theorem dX3_setHardness_49 : decode cX3_setHardness 49 = .ok (.getfield 9, 3) := by decide +kernel
theorem dX3_setHardness_52 : decode cX3_setHardness 52 = .ok (.iload_n 1, 1) := by decide +kernel
theorem dX3_setHardness_53 : decode cX3_setHardness 53 = .ok (.bipush 24, 2) := by decide +kernel
theorem dX3_setHardness_55 : decode cX3_setHardness 55 = .ok (.iload_n 2, 1) := by decide +kernel
theorem dX3_setHardness_56 : decode cX3_setHardness 56 = .ok (.imul, 1) := by decide +kernel
theorem dX3_setHardness_57 : decode cX3_setHardness 57 = .ok (.iadd, 1) := by decide +kernel
theorem dX3_setHardness_58 : decode cX3_setHardness 58 = .ok (.iload_n 3, 1) := by decide +kernel
theorem dX3_setHardness_59 : decode cX3_setHardness 59 = .ok (.iastore, 1) := by decide +kernel
theorem dX3_setHardness_60 : decode cX3_setHardness 60 = .ok (.iload 4, 2) := by decide +kernel
theorem dX3_setHardness_62 : decode cX3_setHardness 62 = .ok (.ireturn, 1) := by decide +kernel
theorem dX3_allStones_0 : decode cX3_allStones 0 = .ok (.iconst 0, 1) := by decide +kernel
theorem dX3_allStones_1 : decode cX3_allStones 1 = .ok (.istore_n 1, 1) := by decide +kernel
theorem dX3_allStones_2 : decode cX3_allStones 2 = .ok (.aload_n 0, 1) := by decide +kernel
theorem dX3_allStones_3 : decode cX3_allStones 3 = .ok (.getfield 13, 3) := by decide +kernel
theorem dX3_allStones_6 : decode cX3_allStones 6 = .ok (.astore_n 2, 1) := by decide +kernel
theorem dX3_allStones_7 : decode cX3_allStones 7 = .ok (.aload_n 2, 1) := by decide +kernel
theorem dX3_allStones_8 : decode cX3_allStones 8 = .ok (.arraylength, 1) := by decide +kernel
theorem dX3_allStones_9 : decode cX3_allStones 9 = .ok (.istore_n 3, 1) := by decide +kernel
theorem dX3_allStones_10 : decode cX3_allStones 10 = .ok (.iconst 0, 1) := by decide +kernel
theorem dX3_allStones_11 : decode cX3_allStones 11 = .ok (.istore 4, 2) := by decide +kernel
theorem dX3_allStones_13 : decode cX3_allStones 13 = .ok (.iload 4, 2) := by decide +kernel
theorem dX3_allStones_15 : decode cX3_allStones 15 = .ok (.iload_n 3, 1) := by decide +kernel
theorem dX3_allStones_16 : decode cX3_allStones 16 = .ok (.if_icmp .ge 28, 3) := by decide +kernel
theorem dX3_allStones_19 : decode cX3_allStones 19 = .ok (.aload_n 2, 1) := by decide +kernel
theorem dX3_allStones_20 : decode cX3_allStones 20 = .ok (.iload 4, 2) := by decide +kernel
theorem dX3_allStones_22 : decode cX3_allStones 22 = .ok (.baload, 1) := by decide +kernel
theorem dX3_allStones_23 : decode cX3_allStones 23 = .ok (.istore 5, 2) := by decide +kernel
theorem dX3_allStones_25 : decode cX3_allStones 25 = .ok (.iload_n 1, 1) := by decide +kernel
theorem dX3_allStones_26 : decode cX3_allStones 26 = .ok (.iload 5, 2) := by decide +kernel
theorem dX3_allStones_28 : decode cX3_allStones 28 = .ok (.ifCond .eq 7, 3) := by decide +kernel
theorem dX3_allStones_31 : decode cX3_allStones 31 = .ok (.iconst 1, 1) := by decide +kernel
theorem dX3_allStones_32 : decode cX3_allStones 32 = .ok (.goto 4, 3) := by decide +kernel
theorem dX3_allStones_35 : decode cX3_allStones 35 = .ok (.iconst 0, 1) := by decide +kernel
theorem dX3_allStones_36 : decode cX3_allStones 36 = .ok (.iadd, 1) := by decide +kernel
theorem dX3_allStones_37 : decode cX3_allStones 37 = .ok (.istore_n 1, 1) := by decide +kernel
theorem dX3_allStones_38 : decode cX3_allStones 38 = .ok (.iinc 4 1, 3) := by decide +kernel
theorem dX3_allStones_41 : decode cX3_allStones 41 = .ok (.goto (-28), 3) := by decide +kernel
theorem dX3_allStones_44 : decode cX3_allStones 44 = .ok (.iload_n 1, 1) := by decide +kernel
theorem dX3_allStones_45 : decode cX3_allStones 45 = .ok (.ireturn, 1) := by decide +kernel
set_option maxRecDepth 20000 in
theorem ggX3_setStones_X3_isCell : GoodIn wsX3_setStones wsX3_isCell := goodIn_r _ [6, 7, 8, 5, 9] (by decide +kernel) (by decide +kernel)
set_option maxRecDepth 20000 in
theorem gX3_setStones_X3_isCell : GoodIn wsX3_setStones (va_wsS RX3 53 yX3_isCell wsX3_isCell) := goodIn_app (goodIn_of _ (by decide +kernel)) ggX3_setStones_X3_isCell
set_option maxRecDepth 20000 in
theorem ggX3_setStones_X3_fail : GoodIn wsX3_setStones wsX3_fail := goodIn_r _ [13, 1, 18, 19, 20, 21, 22, 23, 24, 25, 26, 27, 28] (by decide +kernel) (by decide +kernel)
set_option maxRecDepth 20000 in
theorem gX3_setStones_X3_fail : GoodIn wsX3_setStones (wsV RX3 57 RX3 yX3_fail wsX3_fail) := goodIn_app (goodIn_of _ (by decide +kernel)) ggX3_setStones_X3_fail
set_option maxRecDepth 20000 in
theorem ggX3_setStones_X3_allStones : GoodIn wsX3_setStones wsX3_allStones := goodIn_r _ [17, 2, 18, 19, 20, 21, 22, 23, 24, 25, 26, 27, 28] (by decide +kernel) (by decide +kernel)
set_option maxRecDepth 20000 in
theorem gX3_setStones_X3_allStones : GoodIn wsX3_setStones (wsV RX3 61 RX3 yX3_allStones wsX3_allStones) := goodIn_app (goodIn_of _ (by decide +kernel)) ggX3_setStones_X3_allStones
theorem dX3_setStones_0 : decode cX3_setStones 0 = .ok (.aload_n 0, 1) := by decide +kernel
theorem dX3_setStones_1 : decode cX3_setStones 1 = .ok (.iconst 0, 1) := by decide +kernel
theorem dX3_setStones_2 : decode cX3_setStones 2 = .ok (.putfield 41, 3) := by decide +kernel
theorem dX3_setStones_5 : decode cX3_setStones 5 = .ok (.iload_n 1, 1) := by decide +kernel
theorem dX3_setStones_6 : decode cX3_setStones 6 = .ok (.iload_n 2, 1) := by decide +kernel
theorem dX3_setStones_7 : decode cX3_setStones 7 = .ok (.invokestatic 53, 3) := by decide +kernel
theorem dX3_setStones_10 : decode cX3_setStones 10 = .ok (.ifCond .ne 9, 3) := by decide +kernel
theorem dX3_setStones_13 : decode cX3_setStones 13 = .ok (.aload_n 0, 1) := by decide +kernel
theorem dX3_setStones_14 : decode cX3_setStones 14 = .ok (.iconst 1, 1) := by decide +kernel
theorem dX3_setStones_15 : decode cX3_setStones 15 = .ok (.invokevirtual 57, 3) := by decide +kernel
theorem dX3_setStones_18 : decode cX3_setStones 18 = .ok (.ireturn, 1) := by decide +kernel
theorem dX3_setStones_19 : decode cX3_setStones 19 = .ok (.aload_n 0, 1) := by decide +kernel
theorem dX3_setStones_20 : decode cX3_setStones 20 = .ok (.getfield 13, 3) := by decide +kernel
theorem dX3_setStones_23 : decode cX3_setStones 23 = .ok (.iload_n 1, 1) := by decide +kernel
theorem dX3_setStones_24 : decode cX3_setStones 24 = .ok (.bipush 24, 2) := by decide +kernel
theorem dX3_setStones_26 : decode cX3_setStones 26 = .ok (.iload_n 2, 1) := by decide +kernel
theorem dX3_setStones_27 : decode cX3_setStones 27 = .ok (.imul, 1) := by decide +kernel
theorem dX3_setStones_28 : decode cX3_setStones 28 = .ok (.iadd, 1) := by decide +kernel
theorem dX3_setStones_29 : decode cX3_setStones 29 = .ok (.iload_n 3, 1) := by decide +kernel
theorem dX3_setStones_30 : decode cX3_setStones 30 = .ok (.bastore, 1) := by decide +kernel
theorem dX3_setStones_31 : decode cX3_setStones 31 = .ok (.aload_n 0, 1) := by decide +kernel
theorem dX3_setStones_32 : decode cX3_setStones 32 = .ok (.invokevirtual 61, 3) := by decide +kernel
theorem dX3_setStones_35 : decode cX3_setStones 35 = .ok (.ireturn, 1) := by decide +kernel
set_option maxRecDepth 20000 in
theorem ggX3_setFlow_X3_isIn : GoodIn wsX3_setFlow wsX3_isIn := goodIn_r _ [6] (by decide +kernel) (by decide +kernel)
set_option maxRecDepth 20000 in
theorem gX3_setFlow_X3_isIn : GoodIn wsX3_setFlow (va_wsS RX3 45 yX3_isIn wsX3_isIn) := goodIn_app (goodIn_of _ (by decide +kernel)) ggX3_setFlow_X3_isIn
set_option maxRecDepth 20000 in
theorem ggX3_setFlow_X3_fail : GoodIn wsX3_setFlow wsX3_fail := goodIn_r _ [10, 1, 11, 12, 13, 14, 15, 16, 17, 18, 19, 20, 21] (by decide +kernel) (by decide +kernel)
set_option maxRecDepth 20000 in
theorem gX3_setFlow_X3_fail : GoodIn wsX3_setFlow (wsV RX3 57 RX3 yX3_fail wsX3_fail) := goodIn_app (goodIn_of _ (by decide +kernel)) ggX3_setFlow_X3_fail
theorem dX3_setFlow_0 : decode cX3_setFlow 0 = .ok (.aload_n 0, 1) := by decide +kernel
theorem dX3_setFlow_1 : decode cX3_setFlow 1 = .ok (.iconst 0, 1) := by decide +kernel
theorem dX3_setFlow_2 : decode cX3_setFlow 2 = .ok (.putfield 41, 3) := by decide +kernel
theorem dX3_setFlow_5 : decode cX3_setFlow 5 = .ok (.iload_n 1, 1) := by decide +kernel
theorem dX3_setFlow_6 : decode cX3_setFlow 6 = .ok (.iconst 0, 1) := by decide +kernel
theorem dX3_setFlow_7 : decode cX3_setFlow 7 = .ok (.bipush 11, 2) := by decide +kernel
theorem dX3_setFlow_9 : decode cX3_setFlow 9 = .ok (.invokestatic 45, 3) := by decide +kernel
theorem dX3_setFlow_12 : decode cX3_setFlow 12 = .ok (.ifCond .ne 9, 3) := by decide +kernel
theorem dX3_setFlow_15 : decode cX3_setFlow 15 = .ok (.aload_n 0, 1) := by decide +kernel
theorem dX3_setFlow_16 : decode cX3_setFlow 16 = .ok (.iconst 1, 1) := by decide +kernel
theorem dX3_setFlow_17 : decode cX3_setFlow 17 = .ok (.invokevirtual 57, 3) := by decide +kernel
theorem dX3_setFlow_20 : decode cX3_setFlow 20 = .ok (.ireturn, 1) := by decide +kernel
theorem dX3_setFlow_21 : decode cX3_setFlow 21 = .ok (.iload_n 2, 1) := by decide +kernel
theorem dX3_setFlow_22 : decode cX3_setFlow 22 = .ok (.iconst 1, 1) := by decide +kernel
theorem dX3_setFlow_23 : decode cX3_setFlow 23 = .ok (.bipush 9, 2) := by decide +kernel
theorem dX3_setFlow_25 : decode cX3_setFlow 25 = .ok (.invokestatic 45, 3) := by decide +kernel
theorem dX3_setFlow_28 : decode cX3_setFlow 28 = .ok (.ifCond .ne 9, 3) := by decide +kernel
theorem dX3_setFlow_31 : decode cX3_setFlow 31 = .ok (.aload_n 0, 1) := by decide +kernel
theorem dX3_setFlow_32 : decode cX3_setFlow 32 = .ok (.iconst 2, 1) := by decide +kernel
theorem dX3_setFlow_33 : decode cX3_setFlow 33 = .ok (.invokevirtual 57, 3) := by decide +kernel
theorem dX3_setFlow_36 : decode cX3_setFlow 36 = .ok (.ireturn, 1) := by decide +kernel
theorem dX3_setFlow_37 : decode cX3_setFlow 37 = .ok (.aload_n 0, 1) := by decide +kernel
theorem dX3_setFlow_38 : decode cX3_setFlow 38 = .ok (.getfield 17, 3) := by decide +kernel
theorem dX3_setFlow_41 : decode cX3_setFlow 41 = .ok (.iload_n 1, 1) := by decide +kernel
theorem dX3_setFlow_42 : decode cX3_setFlow 42 = .ok (.iaload, 1) := by decide +kernel
theorem dX3_setFlow_43 : decode cX3_setFlow 43 = .ok (.istore_n 3, 1) := by decide +kernel
theorem dX3_setFlow_44 : decode cX3_setFlow 44 = .ok (.aload_n 0, 1) := by decide +kernel
theorem dX3_setFlow_45 : decode cX3_setFlow 45 = .ok (.getfield 17, 3) := by decide +kernel
theorem dX3_setFlow_48 : decode cX3_setFlow 48 = .ok (.iload_n 1, 1) := by decide +kernel
theorem dX3_setFlow_49 : decode cX3_setFlow 49 = .ok (.iload_n 2, 1) := by decide +kernel
theorem dX3_setFlow_50 : decode cX3_setFlow 50 = .ok (.iastore, 1) := by decide +kernel
theorem dX3_setFlow_51 : decode cX3_setFlow 51 = .ok (.iload_n 3, 1) := by decide +kernel
theorem dX3_setFlow_52 : decode cX3_setFlow 52 = .ok (.ireturn, 1) := by decide +kernel
set_option maxRecDepth 20000 in
theorem ggX3_isOf_X3_isIn : GoodIn wsX3_isOf wsX3_isIn := goodIn_r _ [5] (by decide +kernel) (by decide +kernel)
set_option maxRecDepth 20000 in
theorem gX3_isOf_X3_isIn : GoodIn wsX3_isOf (va_wsS RX3 45 yX3_isIn wsX3_isIn) := goodIn_app (goodIn_of _ (by decide +kernel)) ggX3_isOf_X3_isIn
theorem dX3_isOf_0 : decode cX3_isOf 0 = .ok (.iconst 4, 1) := by decide +kernel
theorem dX3_isOf_1 : decode cX3_isOf 1 = .ok (.iload_n 1, 1) := by decide +kernel
theorem dX3_isOf_2 : decode cX3_isOf 2 = .ok (.imul, 1) := by decide +kernel
theorem dX3_isOf_3 : decode cX3_isOf 3 = .ok (.istore_n 3, 1) := by decide +kernel
theorem dX3_isOf_4 : decode cX3_isOf 4 = .ok (.iload_n 2, 1) := by decide +kernel
theorem dX3_isOf_5 : decode cX3_isOf 5 = .ok (.bipush 24, 2) := by decide +kernel
theorem dX3_isOf_7 : decode cX3_isOf 7 = .ok (.irem, 1) := by decide +kernel
theorem dX3_isOf_8 : decode cX3_isOf 8 = .ok (.aload_n 0, 1) := by decide +kernel
theorem dX3_isOf_9 : decode cX3_isOf 9 = .ok (.getfield 20, 3) := by decide +kernel
theorem dX3_isOf_12 : decode cX3_isOf 12 = .ok (.iload_n 3, 1) := by decide +kernel
theorem dX3_isOf_13 : decode cX3_isOf 13 = .ok (.iaload, 1) := by decide +kernel
theorem dX3_isOf_14 : decode cX3_isOf 14 = .ok (.isub, 1) := by decide +kernel
theorem dX3_isOf_15 : decode cX3_isOf 15 = .ok (.iconst 0, 1) := by decide +kernel
theorem dX3_isOf_16 : decode cX3_isOf 16 = .ok (.aload_n 0, 1) := by decide +kernel
theorem dX3_isOf_17 : decode cX3_isOf 17 = .ok (.getfield 20, 3) := by decide +kernel
theorem dX3_isOf_20 : decode cX3_isOf 20 = .ok (.iload_n 3, 1) := by decide +kernel
theorem dX3_isOf_21 : decode cX3_isOf 21 = .ok (.iconst 2, 1) := by decide +kernel
theorem dX3_isOf_22 : decode cX3_isOf 22 = .ok (.iadd, 1) := by decide +kernel
theorem dX3_isOf_23 : decode cX3_isOf 23 = .ok (.iaload, 1) := by decide +kernel
theorem dX3_isOf_24 : decode cX3_isOf 24 = .ok (.iconst 1, 1) := by decide +kernel
theorem dX3_isOf_25 : decode cX3_isOf 25 = .ok (.isub, 1) := by decide +kernel
theorem dX3_isOf_26 : decode cX3_isOf 26 = .ok (.invokestatic 45, 3) := by decide +kernel
theorem dX3_isOf_29 : decode cX3_isOf 29 = .ok (.ifCond .eq 37, 3) := by decide +kernel
theorem dX3_isOf_32 : decode cX3_isOf 32 = .ok (.iload_n 2, 1) := by decide +kernel
theorem dX3_isOf_33 : decode cX3_isOf 33 = .ok (.bipush 24, 2) := by decide +kernel
theorem dX3_isOf_35 : decode cX3_isOf 35 = .ok (.idiv, 1) := by decide +kernel
theorem dX3_isOf_36 : decode cX3_isOf 36 = .ok (.aload_n 0, 1) := by decide +kernel
theorem dX3_isOf_37 : decode cX3_isOf 37 = .ok (.getfield 20, 3) := by decide +kernel
theorem dX3_isOf_40 : decode cX3_isOf 40 = .ok (.iload_n 3, 1) := by decide +kernel
theorem dX3_isOf_41 : decode cX3_isOf 41 = .ok (.iconst 1, 1) := by decide +kernel
theorem dX3_isOf_42 : decode cX3_isOf 42 = .ok (.iadd, 1) := by decide +kernel
theorem dX3_isOf_43 : decode cX3_isOf 43 = .ok (.iaload, 1) := by decide +kernel
theorem dX3_isOf_44 : decode cX3_isOf 44 = .ok (.isub, 1) := by decide +kernel
theorem dX3_isOf_45 : decode cX3_isOf 45 = .ok (.iconst 0, 1) := by decide +kernel
theorem dX3_isOf_46 : decode cX3_isOf 46 = .ok (.aload_n 0, 1) := by decide +kernel
theorem dX3_isOf_47 : decode cX3_isOf 47 = .ok (.getfield 20, 3) := by decide +kernel
theorem dX3_isOf_50 : decode cX3_isOf 50 = .ok (.iload_n 3, 1) := by decide +kernel
theorem dX3_isOf_51 : decode cX3_isOf 51 = .ok (.iconst 3, 1) := by decide +kernel
theorem dX3_isOf_52 : decode cX3_isOf 52 = .ok (.iadd, 1) := by decide +kernel
theorem dX3_isOf_53 : decode cX3_isOf 53 = .ok (.iaload, 1) := by decide +kernel
theorem dX3_isOf_54 : decode cX3_isOf 54 = .ok (.iconst 1, 1) := by decide +kernel
theorem dX3_isOf_55 : decode cX3_isOf 55 = .ok (.isub, 1) := by decide +kernel
theorem dX3_isOf_56 : decode cX3_isOf 56 = .ok (.invokestatic 45, 3) := by decide +kernel
theorem dX3_isOf_59 : decode cX3_isOf 59 = .ok (.ifCond .eq 7, 3) := by decide +kernel
theorem dX3_isOf_62 : decode cX3_isOf 62 = .ok (.iconst 1, 1) := by decide +kernel
theorem dX3_isOf_63 : decode cX3_isOf 63 = .ok (.goto 4, 3) := by decide +kernel
theorem dX3_isOf_66 : decode cX3_isOf 66 = .ok (.iconst 0, 1) := by decide +kernel
theorem dX3_isOf_67 : decode cX3_isOf 67 = .ok (.ireturn, 1) := by decide +kernel
set_option maxRecDepth 20000 in
theorem ggX3_cell_X3_isCell : GoodIn wsX3_cell wsX3_isCell := goodIn_r _ [12, 13, 14, 11, 15] (by decide +kernel) (by decide +kernel)
set_option maxRecDepth 20000 in
theorem gX3_cell_X3_isCell : GoodIn wsX3_cell (va_wsS RX3 53 yX3_isCell wsX3_isCell) := goodIn_app (goodIn_of _ (by decide +kernel)) ggX3_cell_X3_isCell
set_option maxRecDepth 20000 in
theorem ggX3_cell_X3_isIn : GoodIn wsX3_cell wsX3_isIn := goodIn_r _ [15] (by decide +kernel) (by decide +kernel)
set_option maxRecDepth 20000 in
theorem gX3_cell_X3_isIn : GoodIn wsX3_cell (va_wsS RX3 45 yX3_isIn wsX3_isIn) := goodIn_app (goodIn_of _ (by decide +kernel)) ggX3_cell_X3_isIn
set_option maxRecDepth 20000 in
theorem ggX3_cell_X3_fail : GoodIn wsX3_cell wsX3_fail := goodIn_r _ [19, 1, 25, 26, 27, 28, 29, 30, 31, 32, 33, 34, 35] (by decide +kernel) (by decide +kernel)
set_option maxRecDepth 20000 in
theorem gX3_cell_X3_fail : GoodIn wsX3_cell (wsV RX3 57 RX3 yX3_fail wsX3_fail) := goodIn_app (goodIn_of _ (by decide +kernel)) ggX3_cell_X3_fail
set_option maxRecDepth 20000 in
theorem ggX3_cell_X3_isOf : GoodIn wsX3_cell wsX3_isOf := goodIn_r _ [23, 24, 13, 14, 11, 15, 25, 26, 27, 28, 29, 30, 31, 32, 33, 34, 35] (by decide +kernel) (by decide +kernel)
set_option maxRecDepth 20000 in
theorem gX3_cell_X3_isOf : GoodIn wsX3_cell (wsV RX3 67 RX3 yX3_isOf wsX3_isOf) := goodIn_app (goodIn_of _ (by decide +kernel)) ggX3_cell_X3_isOf
theorem dX3_cell_0 : decode cX3_cell 0 = .ok (.aload_n 0, 1) := by decide +kernel
theorem dX3_cell_1 : decode cX3_cell 1 = .ok (.iconst 0, 1) := by decide +kernel
theorem dX3_cell_2 : decode cX3_cell 2 = .ok (.putfield 41, 3) := by decide +kernel
theorem dX3_cell_5 : decode cX3_cell 5 = .ok (.iload_n 1, 1) := by decide +kernel
theorem dX3_cell_6 : decode cX3_cell 6 = .ok (.iload_n 2, 1) := by decide +kernel
theorem dX3_cell_7 : decode cX3_cell 7 = .ok (.invokestatic 53, 3) := by decide +kernel
theorem dX3_cell_10 : decode cX3_cell 10 = .ok (.ifCond .eq 12, 3) := by decide +kernel
theorem dX3_cell_13 : decode cX3_cell 13 = .ok (.iload_n 3, 1) := by decide +kernel
theorem dX3_cell_14 : decode cX3_cell 14 = .ok (.iconst 0, 1) := by decide +kernel
theorem dX3_cell_15 : decode cX3_cell 15 = .ok (.iconst 5, 1) := by decide +kernel
theorem dX3_cell_16 : decode cX3_cell 16 = .ok (.invokestatic 45, 3) := by decide +kernel
theorem dX3_cell_19 : decode cX3_cell 19 = .ok (.ifCond .ne 9, 3) := by decide +kernel
theorem dX3_cell_22 : decode cX3_cell 22 = .ok (.aload_n 0, 1) := by decide +kernel
theorem dX3_cell_23 : decode cX3_cell 23 = .ok (.iconst 1, 1) := by decide +kernel
theorem dX3_cell_24 : decode cX3_cell 24 = .ok (.invokevirtual 57, 3) := by decide +kernel
theorem dX3_cell_27 : decode cX3_cell 27 = .ok (.ireturn, 1) := by decide +kernel
theorem dX3_cell_28 : decode cX3_cell 28 = .ok (.iload_n 1, 1) := by decide +kernel
theorem dX3_cell_29 : decode cX3_cell 29 = .ok (.bipush 24, 2) := by decide +kernel
theorem dX3_cell_31 : decode cX3_cell 31 = .ok (.iload_n 2, 1) := by decide +kernel
theorem dX3_cell_32 : decode cX3_cell 32 = .ok (.imul, 1) := by decide +kernel
theorem dX3_cell_33 : decode cX3_cell 33 = .ok (.iadd, 1) := by decide +kernel
theorem dX3_cell_34 : decode cX3_cell 34 = .ok (.istore 4, 2) := by decide +kernel
theorem dX3_cell_36 : decode cX3_cell 36 = .ok (.iconst 0, 1) := by decide +kernel
theorem dX3_cell_37 : decode cX3_cell 37 = .ok (.istore 5, 2) := by decide +kernel
theorem dX3_cell_39 : decode cX3_cell 39 = .ok (.iconst 0, 1) := by decide +kernel
theorem dX3_cell_40 : decode cX3_cell 40 = .ok (.istore 6, 2) := by decide +kernel
theorem dX3_cell_42 : decode cX3_cell 42 = .ok (.iload 6, 2) := by decide +kernel
theorem dX3_cell_44 : decode cX3_cell 44 = .ok (.aload_n 0, 1) := by decide +kernel
theorem dX3_cell_45 : decode cX3_cell 45 = .ok (.getfield 64, 3) := by decide +kernel
theorem dX3_cell_48 : decode cX3_cell 48 = .ok (.if_icmp .ge 33, 3) := by decide +kernel
theorem dX3_cell_51 : decode cX3_cell 51 = .ok (.iload 5, 2) := by decide +kernel
theorem dX3_cell_53 : decode cX3_cell 53 = .ok (.aload_n 0, 1) := by decide +kernel
theorem dX3_cell_54 : decode cX3_cell 54 = .ok (.iload 6, 2) := by decide +kernel
theorem dX3_cell_56 : decode cX3_cell 56 = .ok (.iload 4, 2) := by decide +kernel
theorem dX3_cell_58 : decode cX3_cell 58 = .ok (.invokevirtual 67, 3) := by decide +kernel
theorem dX3_cell_61 : decode cX3_cell 61 = .ok (.ifCond .eq 10, 3) := by decide +kernel
theorem dX3_cell_64 : decode cX3_cell 64 = .ok (.iconst 1, 1) := by decide +kernel
theorem dX3_cell_65 : decode cX3_cell 65 = .ok (.iload 6, 2) := by decide +kernel
theorem dX3_cell_67 : decode cX3_cell 67 = .ok (.ishl, 1) := by decide +kernel
theorem dX3_cell_68 : decode cX3_cell 68 = .ok (.goto 4, 3) := by decide +kernel
theorem dX3_cell_71 : decode cX3_cell 71 = .ok (.iconst 0, 1) := by decide +kernel
theorem dX3_cell_72 : decode cX3_cell 72 = .ok (.ior, 1) := by decide +kernel
theorem dX3_cell_73 : decode cX3_cell 73 = .ok (.istore 5, 2) := by decide +kernel
theorem dX3_cell_75 : decode cX3_cell 75 = .ok (.iinc 6 1, 3) := by decide +kernel
theorem dX3_cell_78 : decode cX3_cell 78 = .ok (.goto (-36), 3) := by decide +kernel
theorem dX3_cell_81 : decode cX3_cell 81 = .ok (.bipush 6, 2) := by decide +kernel
theorem dX3_cell_83 : decode cX3_cell 83 = .ok (.newarray .int, 2) := by decide +kernel
theorem dX3_cell_85 : decode cX3_cell 85 = .ok (.dup, 1) := by decide +kernel
theorem dX3_cell_86 : decode cX3_cell 86 = .ok (.iconst 0, 1) := by decide +kernel
theorem dX3_cell_87 : decode cX3_cell 87 = .ok (.aload_n 0, 1) := by decide +kernel
theorem dX3_cell_88 : decode cX3_cell 88 = .ok (.getfield 9, 3) := by decide +kernel
theorem dX3_cell_91 : decode cX3_cell 91 = .ok (.iload 4, 2) := by decide +kernel
theorem dX3_cell_93 : decode cX3_cell 93 = .ok (.iaload, 1) := by decide +kernel
theorem dX3_cell_94 : decode cX3_cell 94 = .ok (.iastore, 1) := by decide +kernel
theorem dX3_cell_95 : decode cX3_cell 95 = .ok (.dup, 1) := by decide +kernel
theorem dX3_cell_96 : decode cX3_cell 96 = .ok (.iconst 1, 1) := by decide +kernel
theorem dX3_cell_97 : decode cX3_cell 97 = .ok (.aload_n 0, 1) := by decide +kernel
theorem dX3_cell_98 : decode cX3_cell 98 = .ok (.getfield 29, 3) := by decide +kernel
theorem dX3_cell_101 : decode cX3_cell 101 = .ok (.iload 4, 2) := by decide +kernel
theorem dX3_cell_103 : decode cX3_cell 103 = .ok (.iaload, 1) := by decide +kernel
theorem dX3_cell_104 : decode cX3_cell 104 = .ok (.iastore, 1) := by decide +kernel
theorem dX3_cell_105 : decode cX3_cell 105 = .ok (.dup, 1) := by decide +kernel
theorem dX3_cell_106 : decode cX3_cell 106 = .ok (.iconst 2, 1) := by decide +kernel
theorem dX3_cell_107 : decode cX3_cell 107 = .ok (.aload_n 0, 1) := by decide +kernel
theorem dX3_cell_108 : decode cX3_cell 108 = .ok (.getfield 13, 3) := by decide +kernel
theorem dX3_cell_111 : decode cX3_cell 111 = .ok (.iload 4, 2) := by decide +kernel
theorem dX3_cell_113 : decode cX3_cell 113 = .ok (.baload, 1) := by decide +kernel
theorem dX3_cell_114 : decode cX3_cell 114 = .ok (.ifCond .eq 7, 3) := by decide +kernel
theorem dX3_cell_117 : decode cX3_cell 117 = .ok (.iconst 1, 1) := by decide +kernel
theorem dX3_cell_118 : decode cX3_cell 118 = .ok (.goto 4, 3) := by decide +kernel
theorem dX3_cell_121 : decode cX3_cell 121 = .ok (.iconst 0, 1) := by decide +kernel
theorem dX3_cell_122 : decode cX3_cell 122 = .ok (.iastore, 1) := by decide +kernel
theorem dX3_cell_123 : decode cX3_cell 123 = .ok (.dup, 1) := by decide +kernel
theorem dX3_cell_124 : decode cX3_cell 124 = .ok (.iconst 3, 1) := by decide +kernel
theorem dX3_cell_125 : decode cX3_cell 125 = .ok (.aload_n 0, 1) := by decide +kernel
theorem dX3_cell_126 : decode cX3_cell 126 = .ok (.getfield 26, 3) := by decide +kernel
theorem dX3_cell_129 : decode cX3_cell 129 = .ok (.iload 4, 2) := by decide +kernel
theorem dX3_cell_131 : decode cX3_cell 131 = .ok (.iaload, 1) := by decide +kernel
theorem dX3_cell_132 : decode cX3_cell 132 = .ok (.iastore, 1) := by decide +kernel
theorem dX3_cell_133 : decode cX3_cell 133 = .ok (.dup, 1) := by decide +kernel
theorem dX3_cell_134 : decode cX3_cell 134 = .ok (.iconst 4, 1) := by decide +kernel
theorem dX3_cell_135 : decode cX3_cell 135 = .ok (.aload_n 0, 1) := by decide +kernel
theorem dX3_cell_136 : decode cX3_cell 136 = .ok (.getfield 32, 3) := by decide +kernel
theorem dX3_cell_139 : decode cX3_cell 139 = .ok (.iload 4, 2) := by decide +kernel
theorem dX3_cell_141 : decode cX3_cell 141 = .ok (.iaload, 1) := by decide +kernel
theorem dX3_cell_142 : decode cX3_cell 142 = .ok (.iastore, 1) := by decide +kernel
theorem dX3_cell_143 : decode cX3_cell 143 = .ok (.dup, 1) := by decide +kernel
theorem dX3_cell_144 : decode cX3_cell 144 = .ok (.iconst 5, 1) := by decide +kernel
theorem dX3_cell_145 : decode cX3_cell 145 = .ok (.iload 5, 2) := by decide +kernel
theorem dX3_cell_147 : decode cX3_cell 147 = .ok (.iastore, 1) := by decide +kernel
theorem dX3_cell_148 : decode cX3_cell 148 = .ok (.astore 6, 2) := by decide +kernel
theorem dX3_cell_150 : decode cX3_cell 150 = .ok (.aload 6, 2) := by decide +kernel
theorem dX3_cell_152 : decode cX3_cell 152 = .ok (.iload_n 3, 1) := by decide +kernel
theorem dX3_cell_153 : decode cX3_cell 153 = .ok (.iaload, 1) := by decide +kernel
theorem dX3_cell_154 : decode cX3_cell 154 = .ok (.ireturn, 1) := by decide +kernel
theorem dX3_direction_0 : decode cX3_direction 0 = .ok (.aload_n 0, 1) := by decide +kernel
theorem dX3_direction_1 : decode cX3_direction 1 = .ok (.getfield 23, 3) := by decide +kernel
theorem dX3_direction_4 : decode cX3_direction 4 = .ok (.iload_n 1, 1) := by decide +kernel
theorem dX3_direction_5 : decode cX3_direction 5 = .ok (.iconst 1, 1) := by decide +kernel
theorem dX3_direction_6 : decode cX3_direction 6 = .ok (.iadd, 1) := by decide +kernel
theorem dX3_direction_7 : decode cX3_direction 7 = .ok (.iaload, 1) := by decide +kernel
theorem dX3_direction_8 : decode cX3_direction 8 = .ok (.aload_n 0, 1) := by decide +kernel
theorem dX3_direction_9 : decode cX3_direction 9 = .ok (.getfield 23, 3) := by decide +kernel
theorem dX3_direction_12 : decode cX3_direction 12 = .ok (.iload_n 1, 1) := by decide +kernel
theorem dX3_direction_13 : decode cX3_direction 13 = .ok (.iaload, 1) := by decide +kernel
theorem dX3_direction_14 : decode cX3_direction 14 = .ok (.isub, 1) := by decide +kernel
theorem dX3_direction_15 : decode cX3_direction 15 = .ok (.istore_n 2, 1) := by decide +kernel
theorem dX3_direction_16 : decode cX3_direction 16 = .ok (.iload_n 2, 1) := by decide +kernel
theorem dX3_direction_17 : decode cX3_direction 17 = .ok (.bipush (-24), 2) := by decide +kernel
theorem dX3_direction_19 : decode cX3_direction 19 = .ok (.if_icmp .ne 7, 3) := by decide +kernel
theorem dX3_direction_22 : decode cX3_direction 22 = .ok (.iconst 0, 1) := by decide +kernel
theorem dX3_direction_23 : decode cX3_direction 23 = .ok (.goto 23, 3) := by decide +kernel
theorem dX3_direction_26 : decode cX3_direction 26 = .ok (.iload_n 2, 1) := by decide +kernel
theorem dX3_direction_27 : decode cX3_direction 27 = .ok (.iconst 1, 1) := by decide +kernel
theorem dX3_direction_28 : decode cX3_direction 28 = .ok (.if_icmp .ne 7, 3) := by decide +kernel
theorem dX3_direction_31 : decode cX3_direction 31 = .ok (.iconst 1, 1) := by decide +kernel
theorem dX3_direction_32 : decode cX3_direction 32 = .ok (.goto 14, 3) := by decide +kernel
theorem dX3_direction_35 : decode cX3_direction 35 = .ok (.iload_n 2, 1) := by decide +kernel
theorem dX3_direction_36 : decode cX3_direction 36 = .ok (.bipush 24, 2) := by decide +kernel
theorem dX3_direction_38 : decode cX3_direction 38 = .ok (.if_icmp .ne 7, 3) := by decide +kernel
theorem dX3_direction_41 : decode cX3_direction 41 = .ok (.iconst 2, 1) := by decide +kernel
theorem dX3_direction_42 : decode cX3_direction 42 = .ok (.goto 4, 3) := by decide +kernel
theorem dX3_direction_45 : decode cX3_direction 45 = .ok (.iconst 3, 1) := by decide +kernel
theorem dX3_direction_46 : decode cX3_direction 46 = .ok (.ireturn, 1) := by decide +kernel
set_option maxRecDepth 20000 in
theorem ggX3_isStraight_X3_length : GoodIn wsX3_isStraight wsX3_length := goodIn_r _ [5, 6, 12, 13, 14, 15, 16, 17, 18, 19, 20, 21, 22] (by decide +kernel) (by decide +kernel)
set_option maxRecDepth 20000 in
theorem gX3_isStraight_X3_length : GoodIn wsX3_isStraight (wsV RX3 49 RX3 yX3_length wsX3_length) := goodIn_app (goodIn_of _ (by decide +kernel)) ggX3_isStraight_X3_length
set_option maxRecDepth 20000 in
theorem ggX3_isStraight_X3_direction : GoodIn wsX3_isStraight wsX3_direction := goodIn_r _ [10, 11, 12, 13, 14, 15, 16, 17, 18, 19, 20, 21, 22] (by decide +kernel) (by decide +kernel)
set_option maxRecDepth 20000 in
theorem gX3_isStraight_X3_direction : GoodIn wsX3_isStraight (wsV RX3 70 RX3 yX3_direction wsX3_direction) := goodIn_app (goodIn_of _ (by decide +kernel)) ggX3_isStraight_X3_direction
theorem dX3_isStraight_0 : decode cX3_isStraight 0 = .ok (.iload_n 1, 1) := by decide +kernel
theorem dX3_isStraight_1 : decode cX3_isStraight 1 = .ok (.ifCond .le 32, 3) := by decide +kernel
theorem dX3_isStraight_4 : decode cX3_isStraight 4 = .ok (.iload_n 1, 1) := by decide +kernel
theorem dX3_isStraight_5 : decode cX3_isStraight 5 = .ok (.aload_n 0, 1) := by decide +kernel
theorem dX3_isStraight_6 : decode cX3_isStraight 6 = .ok (.invokevirtual 49, 3) := by decide +kernel
theorem dX3_isStraight_9 : decode cX3_isStraight 9 = .ok (.iconst 1, 1) := by decide +kernel
theorem dX3_isStraight_10 : decode cX3_isStraight 10 = .ok (.isub, 1) := by decide +kernel
theorem dX3_isStraight_11 : decode cX3_isStraight 11 = .ok (.if_icmp .ge 22, 3) := by decide +kernel
theorem dX3_isStraight_14 : decode cX3_isStraight 14 = .ok (.aload_n 0, 1) := by decide +kernel
theorem dX3_isStraight_15 : decode cX3_isStraight 15 = .ok (.iload_n 1, 1) := by decide +kernel
theorem dX3_isStraight_16 : decode cX3_isStraight 16 = .ok (.iconst 1, 1) := by decide +kernel
theorem dX3_isStraight_17 : decode cX3_isStraight 17 = .ok (.isub, 1) := by decide +kernel
theorem dX3_isStraight_18 : decode cX3_isStraight 18 = .ok (.invokevirtual 70, 3) := by decide +kernel
theorem dX3_isStraight_21 : decode cX3_isStraight 21 = .ok (.aload_n 0, 1) := by decide +kernel
theorem dX3_isStraight_22 : decode cX3_isStraight 22 = .ok (.iload_n 1, 1) := by decide +kernel
theorem dX3_isStraight_23 : decode cX3_isStraight 23 = .ok (.invokevirtual 70, 3) := by decide +kernel
theorem dX3_isStraight_26 : decode cX3_isStraight 26 = .ok (.if_icmp .ne 7, 3) := by decide +kernel
theorem dX3_isStraight_29 : decode cX3_isStraight 29 = .ok (.iconst 1, 1) := by decide +kernel
theorem dX3_isStraight_30 : decode cX3_isStraight 30 = .ok (.goto 4, 3) := by decide +kernel
theorem dX3_isStraight_33 : decode cX3_isStraight 33 = .ok (.iconst 0, 1) := by decide +kernel
theorem dX3_isStraight_34 : decode cX3_isStraight 34 = .ok (.ireturn, 1) := by decide +kernel
set_option maxRecDepth 20000 in
theorem ggX3_side_X3_isStraight : GoodIn wsX3_side wsX3_isStraight := goodIn_r _ [5, 6, 7, 8, 4, 9, 10, 11, 12, 13, 14, 15, 16, 17, 18, 19, 20, 21, 22, 23, 24, 25, 26] (by decide +kernel) (by decide +kernel)
set_option maxRecDepth 20000 in
theorem gX3_side_X3_isStraight : GoodIn wsX3_side (wsV RX3 73 RX3 yX3_isStraight wsX3_isStraight) := goodIn_app (goodIn_of _ (by decide +kernel)) ggX3_side_X3_isStraight
set_option maxRecDepth 20000 in
theorem ggX3_side_X3_direction : GoodIn wsX3_side wsX3_direction := goodIn_r _ [14, 15, 16, 17, 18, 19, 20, 21, 22, 23, 24, 25, 26] (by decide +kernel) (by decide +kernel)
set_option maxRecDepth 20000 in
theorem gX3_side_X3_direction : GoodIn wsX3_side (wsV RX3 70 RX3 yX3_direction wsX3_direction) := goodIn_app (goodIn_of _ (by decide +kernel)) ggX3_side_X3_direction
theorem dX3_side_0 : decode cX3_side 0 = .ok (.aload_n 0, 1) := by decide +kernel
theorem dX3_side_1 : decode cX3_side 1 = .ok (.iload_n 1, 1) := by decide +kernel
theorem dX3_side_2 : decode cX3_side 2 = .ok (.invokevirtual 73, 3) := by decide +kernel
theorem dX3_side_5 : decode cX3_side 5 = .ok (.ifCond .ne 5, 3) := by decide +kernel
theorem dX3_side_8 : decode cX3_side 8 = .ok (.iconst (-1), 1) := by decide +kernel
theorem dX3_side_9 : decode cX3_side 9 = .ok (.ireturn, 1) := by decide +kernel
theorem dX3_side_10 : decode cX3_side 10 = .ok (.iload_n 1, 1) := by decide +kernel
theorem dX3_side_11 : decode cX3_side 11 = .ok (.iconst 1, 1) := by decide +kernel
theorem dX3_side_12 : decode cX3_side 12 = .ok (.isub, 1) := by decide +kernel
theorem dX3_side_13 : decode cX3_side 13 = .ok (.istore_n 2, 1) := by decide +kernel
theorem dX3_side_14 : decode cX3_side 14 = .ok (.iload_n 2, 1) := by decide +kernel
theorem dX3_side_15 : decode cX3_side 15 = .ok (.ifCond .le 39, 3) := by decide +kernel
theorem dX3_side_18 : decode cX3_side 18 = .ok (.iload_n 1, 1) := by decide +kernel
theorem dX3_side_19 : decode cX3_side 19 = .ok (.iload_n 2, 1) := by decide +kernel
theorem dX3_side_20 : decode cX3_side 20 = .ok (.isub, 1) := by decide +kernel
theorem dX3_side_21 : decode cX3_side 21 = .ok (.iconst 4, 1) := by decide +kernel
theorem dX3_side_22 : decode cX3_side 22 = .ok (.if_icmp .gt 32, 3) := by decide +kernel
theorem dX3_side_25 : decode cX3_side 25 = .ok (.aload_n 0, 1) := by decide +kernel
theorem dX3_side_26 : decode cX3_side 26 = .ok (.iload_n 2, 1) := by decide +kernel
theorem dX3_side_27 : decode cX3_side 27 = .ok (.invokevirtual 70, 3) := by decide +kernel
theorem dX3_side_30 : decode cX3_side 30 = .ok (.aload_n 0, 1) := by decide +kernel
theorem dX3_side_31 : decode cX3_side 31 = .ok (.iload_n 2, 1) := by decide +kernel
theorem dX3_side_32 : decode cX3_side 32 = .ok (.iconst 1, 1) := by decide +kernel
theorem dX3_side_33 : decode cX3_side 33 = .ok (.isub, 1) := by decide +kernel
theorem dX3_side_34 : decode cX3_side 34 = .ok (.invokevirtual 70, 3) := by decide +kernel
theorem dX3_side_37 : decode cX3_side 37 = .ok (.if_icmp .eq 11, 3) := by decide +kernel
theorem dX3_side_40 : decode cX3_side 40 = .ok (.aload_n 0, 1) := by decide +kernel
theorem dX3_side_41 : decode cX3_side 41 = .ok (.iload_n 2, 1) := by decide +kernel
theorem dX3_side_42 : decode cX3_side 42 = .ok (.iconst 1, 1) := by decide +kernel
theorem dX3_side_43 : decode cX3_side 43 = .ok (.isub, 1) := by decide +kernel
theorem dX3_side_44 : decode cX3_side 44 = .ok (.invokevirtual 70, 3) := by decide +kernel
theorem dX3_side_47 : decode cX3_side 47 = .ok (.ireturn, 1) := by decide +kernel
theorem dX3_side_48 : decode cX3_side 48 = .ok (.iinc 2 (-1), 3) := by decide +kernel
theorem dX3_side_51 : decode cX3_side 51 = .ok (.goto (-37), 3) := by decide +kernel
theorem dX3_side_54 : decode cX3_side 54 = .ok (.iconst (-1), 1) := by decide +kernel
theorem dX3_side_55 : decode cX3_side 55 = .ok (.ireturn, 1) := by decide +kernel
set_option maxRecDepth 20000 in
theorem ggX3_bank_X3_side : GoodIn wsX3_bank wsX3_side := goodIn_r _ [6, 7, 8, 9, 5, 10, 11, 12, 13, 14, 15, 16, 17, 18, 19, 1, 29, 30, 31, 32, 33, 34, 35, 36, 37, 38, 39] (by decide +kernel) (by decide +kernel)
set_option maxRecDepth 20000 in
theorem gX3_bank_X3_side : GoodIn wsX3_bank (wsV RX3 77 RX3 yX3_side wsX3_side) := goodIn_app (goodIn_of _ (by decide +kernel)) ggX3_bank_X3_side
set_option maxRecDepth 20000 in
theorem ggX3_bank_X3_beside : GoodIn wsX3_bank wsX3_beside := goodIn_r _ [22, 23, 24, 5, 25, 26, 27, 28] (by decide +kernel) (by decide +kernel)
set_option maxRecDepth 20000 in
theorem gX3_bank_X3_beside : GoodIn wsX3_bank (va_wsS RX3 80 yX3_beside wsX3_beside) := goodIn_app (goodIn_of _ (by decide +kernel)) ggX3_bank_X3_beside
theorem dX3_bank_0 : decode cX3_bank 0 = .ok (.aload_n 0, 1) := by decide +kernel
theorem dX3_bank_1 : decode cX3_bank 1 = .ok (.iload_n 1, 1) := by decide +kernel
theorem dX3_bank_2 : decode cX3_bank 2 = .ok (.invokevirtual 77, 3) := by decide +kernel
theorem dX3_bank_5 : decode cX3_bank 5 = .ok (.iconst (-1), 1) := by decide +kernel
theorem dX3_bank_6 : decode cX3_bank 6 = .ok (.if_icmp .ne 7, 3) := by decide +kernel
theorem dX3_bank_9 : decode cX3_bank 9 = .ok (.iconst (-1), 1) := by decide +kernel
theorem dX3_bank_10 : decode cX3_bank 10 = .ok (.goto 17, 3) := by decide +kernel
theorem dX3_bank_13 : decode cX3_bank 13 = .ok (.aload_n 0, 1) := by decide +kernel
theorem dX3_bank_14 : decode cX3_bank 14 = .ok (.getfield 23, 3) := by decide +kernel
theorem dX3_bank_17 : decode cX3_bank 17 = .ok (.iload_n 1, 1) := by decide +kernel
theorem dX3_bank_18 : decode cX3_bank 18 = .ok (.iaload, 1) := by decide +kernel
theorem dX3_bank_19 : decode cX3_bank 19 = .ok (.aload_n 0, 1) := by decide +kernel
theorem dX3_bank_20 : decode cX3_bank 20 = .ok (.iload_n 1, 1) := by decide +kernel
theorem dX3_bank_21 : decode cX3_bank 21 = .ok (.invokevirtual 77, 3) := by decide +kernel
theorem dX3_bank_24 : decode cX3_bank 24 = .ok (.invokestatic 80, 3) := by decide +kernel
theorem dX3_bank_27 : decode cX3_bank 27 = .ok (.ireturn, 1) := by decide +kernel
set_option maxRecDepth 20000 in
theorem ggX3_course_X3_isCourse : GoodIn wsX3_course wsX3_isCourse := goodIn_r _ [7, 8, 9, 10, 6, 11, 12, 13, 14, 15, 42, 43, 44, 45, 46, 47, 48, 49, 50, 51, 52] (by decide +kernel) (by decide +kernel)
set_option maxRecDepth 20000 in
theorem gX3_course_X3_isCourse : GoodIn wsX3_course (wsV RX3 84 RX3 yX3_isCourse wsX3_isCourse) := goodIn_app (goodIn_of _ (by decide +kernel)) ggX3_course_X3_isCourse
set_option maxRecDepth 20000 in
theorem ggX3_course_X3_isIn : GoodIn wsX3_course wsX3_isIn := goodIn_r _ [15] (by decide +kernel) (by decide +kernel)
set_option maxRecDepth 20000 in
theorem gX3_course_X3_isIn : GoodIn wsX3_course (va_wsS RX3 45 yX3_isIn wsX3_isIn) := goodIn_app (goodIn_of _ (by decide +kernel)) ggX3_course_X3_isIn
set_option maxRecDepth 20000 in
theorem ggX3_course_X3_fail : GoodIn wsX3_course wsX3_fail := goodIn_r _ [19, 1, 42, 43, 44, 45, 46, 47, 48, 49, 50, 51, 52] (by decide +kernel) (by decide +kernel)
set_option maxRecDepth 20000 in
theorem gX3_course_X3_fail : GoodIn wsX3_course (wsV RX3 57 RX3 yX3_fail wsX3_fail) := goodIn_app (goodIn_of _ (by decide +kernel)) ggX3_course_X3_fail
set_option maxRecDepth 20000 in
theorem ggX3_course_X3_length : GoodIn wsX3_course wsX3_length := goodIn_r _ [11, 12, 42, 43, 44, 45, 46, 47, 48, 49, 50, 51, 52] (by decide +kernel) (by decide +kernel)
set_option maxRecDepth 20000 in
theorem gX3_course_X3_length : GoodIn wsX3_course (wsV RX3 49 RX3 yX3_length wsX3_length) := goodIn_app (goodIn_of _ (by decide +kernel)) ggX3_course_X3_length
set_option maxRecDepth 20000 in
theorem ggX3_course_X3_direction : GoodIn wsX3_course wsX3_direction := goodIn_r _ [23, 2, 42, 43, 44, 45, 46, 47, 48, 49, 50, 51, 52] (by decide +kernel) (by decide +kernel)
set_option maxRecDepth 20000 in
theorem gX3_course_X3_direction : GoodIn wsX3_course (wsV RX3 70 RX3 yX3_direction wsX3_direction) := goodIn_app (goodIn_of _ (by decide +kernel)) ggX3_course_X3_direction
set_option maxRecDepth 20000 in
theorem ggX3_course_X3_isStraight : GoodIn wsX3_course wsX3_isStraight := goodIn_r _ [27, 8, 9, 10, 6, 11, 12, 20, 21, 22, 23, 2, 42, 43, 44, 45, 46, 47, 48, 49, 50, 51, 52] (by decide +kernel) (by decide +kernel)
set_option maxRecDepth 20000 in
theorem gX3_course_X3_isStraight : GoodIn wsX3_course (wsV RX3 73 RX3 yX3_isStraight wsX3_isStraight) := goodIn_app (goodIn_of _ (by decide +kernel)) ggX3_course_X3_isStraight
set_option maxRecDepth 20000 in
theorem ggX3_course_X3_side : GoodIn wsX3_course wsX3_side := goodIn_r _ [31, 24, 25, 26, 6, 27, 8, 9, 10, 11, 12, 20, 21, 22, 23, 2, 42, 43, 44, 45, 46, 47, 48, 49, 50, 51, 52] (by decide +kernel) (by decide +kernel)
set_option maxRecDepth 20000 in
theorem gX3_course_X3_side : GoodIn wsX3_course (wsV RX3 77 RX3 yX3_side wsX3_side) := goodIn_app (goodIn_of _ (by decide +kernel)) ggX3_course_X3_side
set_option maxRecDepth 20000 in
theorem ggX3_course_X3_bank : GoodIn wsX3_course wsX3_bank := goodIn_r _ [35, 2, 28, 29, 30, 6, 31, 24, 25, 26, 27, 8, 9, 10, 11, 12, 20, 21, 22, 23, 36, 37, 38, 39, 40, 41, 13, 14, 15, 42, 43, 44, 45, 46, 47, 48, 49, 50, 51, 52] (by decide +kernel) (by decide +kernel)
set_option maxRecDepth 20000 in
theorem gX3_course_X3_bank : GoodIn wsX3_course (wsV RX3 87 RX3 yX3_bank wsX3_bank) := goodIn_app (goodIn_of _ (by decide +kernel)) ggX3_course_X3_bank
theorem dX3_course_0 : decode cX3_course 0 = .ok (.aload_n 0, 1) := by decide +kernel
theorem dX3_course_1 : decode cX3_course 1 = .ok (.iconst 0, 1) := by decide +kernel
theorem dX3_course_2 : decode cX3_course 2 = .ok (.putfield 41, 3) := by decide +kernel
theorem dX3_course_5 : decode cX3_course 5 = .ok (.aload_n 0, 1) := by decide +kernel
theorem dX3_course_6 : decode cX3_course 6 = .ok (.iload_n 1, 1) := by decide +kernel
theorem dX3_course_7 : decode cX3_course 7 = .ok (.invokevirtual 84, 3) := by decide +kernel
theorem dX3_course_10 : decode cX3_course 10 = .ok (.ifCond .eq 12, 3) := by decide +kernel
theorem dX3_course_13 : decode cX3_course 13 = .ok (.iload_n 2, 1) := by decide +kernel
theorem dX3_course_14 : decode cX3_course 14 = .ok (.iconst 0, 1) := by decide +kernel
theorem dX3_course_15 : decode cX3_course 15 = .ok (.iconst 4, 1) := by decide +kernel
theorem dX3_course_16 : decode cX3_course 16 = .ok (.invokestatic 45, 3) := by decide +kernel
theorem dX3_course_19 : decode cX3_course 19 = .ok (.ifCond .ne 9, 3) := by decide +kernel
theorem dX3_course_22 : decode cX3_course 22 = .ok (.aload_n 0, 1) := by decide +kernel
theorem dX3_course_23 : decode cX3_course 23 = .ok (.iconst 1, 1) := by decide +kernel
theorem dX3_course_24 : decode cX3_course 24 = .ok (.invokevirtual 57, 3) := by decide +kernel
theorem dX3_course_27 : decode cX3_course 27 = .ok (.ireturn, 1) := by decide +kernel
theorem dX3_course_28 : decode cX3_course 28 = .ok (.iload_n 2, 1) := by decide +kernel
theorem dX3_course_29 : decode cX3_course 29 = .ok (.tableswitch 78 0 3 #[31, 38, 58, 72], 31) := by decide +kernel
theorem dX3_course_60 : decode cX3_course 60 = .ok (.aload_n 0, 1) := by decide +kernel
theorem dX3_course_61 : decode cX3_course 61 = .ok (.getfield 23, 3) := by decide +kernel
theorem dX3_course_64 : decode cX3_course 64 = .ok (.iload_n 1, 1) := by decide +kernel
theorem dX3_course_65 : decode cX3_course 65 = .ok (.iaload, 1) := by decide +kernel
theorem dX3_course_66 : decode cX3_course 66 = .ok (.ireturn, 1) := by decide +kernel
theorem dX3_course_67 : decode cX3_course 67 = .ok (.iload_n 1, 1) := by decide +kernel
theorem dX3_course_68 : decode cX3_course 68 = .ok (.aload_n 0, 1) := by decide +kernel
theorem dX3_course_69 : decode cX3_course 69 = .ok (.invokevirtual 49, 3) := by decide +kernel
theorem dX3_course_72 : decode cX3_course 72 = .ok (.iconst 1, 1) := by decide +kernel
theorem dX3_course_73 : decode cX3_course 73 = .ok (.isub, 1) := by decide +kernel
theorem dX3_course_74 : decode cX3_course 74 = .ok (.if_icmp .ne 7, 3) := by decide +kernel
theorem dX3_course_77 : decode cX3_course 77 = .ok (.iconst (-1), 1) := by decide +kernel
theorem dX3_course_78 : decode cX3_course 78 = .ok (.goto 8, 3) := by decide +kernel
theorem dX3_course_81 : decode cX3_course 81 = .ok (.aload_n 0, 1) := by decide +kernel
theorem dX3_course_82 : decode cX3_course 82 = .ok (.iload_n 1, 1) := by decide +kernel
theorem dX3_course_83 : decode cX3_course 83 = .ok (.invokevirtual 70, 3) := by decide +kernel
theorem dX3_course_86 : decode cX3_course 86 = .ok (.ireturn, 1) := by decide +kernel
theorem dX3_course_87 : decode cX3_course 87 = .ok (.aload_n 0, 1) := by decide +kernel
theorem dX3_course_88 : decode cX3_course 88 = .ok (.iload_n 1, 1) := by decide +kernel
theorem dX3_course_89 : decode cX3_course 89 = .ok (.invokevirtual 73, 3) := by decide +kernel
theorem dX3_course_92 : decode cX3_course 92 = .ok (.ifCond .eq 7, 3) := by decide +kernel
theorem dX3_course_95 : decode cX3_course 95 = .ok (.iconst 1, 1) := by decide +kernel
theorem dX3_course_96 : decode cX3_course 96 = .ok (.goto 4, 3) := by decide +kernel
theorem dX3_course_99 : decode cX3_course 99 = .ok (.iconst 0, 1) := by decide +kernel
theorem dX3_course_100 : decode cX3_course 100 = .ok (.ireturn, 1) := by decide +kernel
theorem dX3_course_101 : decode cX3_course 101 = .ok (.aload_n 0, 1) := by decide +kernel
theorem dX3_course_102 : decode cX3_course 102 = .ok (.iload_n 1, 1) := by decide +kernel
theorem dX3_course_103 : decode cX3_course 103 = .ok (.invokevirtual 77, 3) := by decide +kernel
theorem dX3_course_106 : decode cX3_course 106 = .ok (.ireturn, 1) := by decide +kernel
theorem dX3_course_107 : decode cX3_course 107 = .ok (.aload_n 0, 1) := by decide +kernel
theorem dX3_course_108 : decode cX3_course 108 = .ok (.iload_n 1, 1) := by decide +kernel
theorem dX3_course_109 : decode cX3_course 109 = .ok (.invokevirtual 87, 3) := by decide +kernel
theorem dX3_course_112 : decode cX3_course 112 = .ok (.ireturn, 1) := by decide +kernel
set_option maxRecDepth 20000 in
theorem ggX3_canBulge_X3_isStraight : GoodIn wsX3_canBulge wsX3_isStraight := goodIn_r _ [8, 9, 10, 11, 7, 12, 13, 14, 15, 16, 17, 1, 27, 28, 29, 30, 31, 32, 33, 34, 35, 36, 37] (by decide +kernel) (by decide +kernel)
set_option maxRecDepth 20000 in
theorem gX3_canBulge_X3_isStraight : GoodIn wsX3_canBulge (wsV RX3 73 RX3 yX3_isStraight wsX3_isStraight) := goodIn_app (goodIn_of _ (by decide +kernel)) ggX3_canBulge_X3_isStraight
set_option maxRecDepth 20000 in
theorem ggX3_canBulge_X3_direction : GoodIn wsX3_canBulge wsX3_direction := goodIn_r _ [17, 1, 27, 28, 29, 30, 31, 32, 33, 34, 35, 36, 37] (by decide +kernel) (by decide +kernel)
set_option maxRecDepth 20000 in
theorem gX3_canBulge_X3_direction : GoodIn wsX3_canBulge (wsV RX3 70 RX3 yX3_direction wsX3_direction) := goodIn_app (goodIn_of _ (by decide +kernel)) ggX3_canBulge_X3_direction
set_option maxRecDepth 20000 in
theorem ggX3_canBulge_X3_length : GoodIn wsX3_canBulge wsX3_length := goodIn_r _ [12, 13, 27, 28, 29, 30, 31, 32, 33, 34, 35, 36, 37] (by decide +kernel) (by decide +kernel)
set_option maxRecDepth 20000 in
theorem gX3_canBulge_X3_length : GoodIn wsX3_canBulge (wsV RX3 49 RX3 yX3_length wsX3_length) := goodIn_app (goodIn_of _ (by decide +kernel)) ggX3_canBulge_X3_length
set_option maxRecDepth 20000 in
theorem ggX3_canBulge_X3_beside : GoodIn wsX3_canBulge wsX3_beside := goodIn_r _ [20, 21, 22, 7, 23, 24, 25, 26] (by decide +kernel) (by decide +kernel)
set_option maxRecDepth 20000 in
theorem gX3_canBulge_X3_beside : GoodIn wsX3_canBulge (va_wsS RX3 80 yX3_beside wsX3_beside) := goodIn_app (goodIn_of _ (by decide +kernel)) ggX3_canBulge_X3_beside
theorem dX3_canBulge_0 : decode cX3_canBulge 0 = .ok (.aload_n 0, 1) := by decide +kernel
theorem dX3_canBulge_1 : decode cX3_canBulge 1 = .ok (.iload_n 1, 1) := by decide +kernel
theorem dX3_canBulge_2 : decode cX3_canBulge 2 = .ok (.invokevirtual 73, 3) := by decide +kernel
theorem dX3_canBulge_5 : decode cX3_canBulge 5 = .ok (.ifCond .eq 28, 3) := by decide +kernel
theorem dX3_canBulge_8 : decode cX3_canBulge 8 = .ok (.iload_n 2, 1) := by decide +kernel
theorem dX3_canBulge_9 : decode cX3_canBulge 9 = .ok (.iconst 2, 1) := by decide +kernel
theorem dX3_canBulge_10 : decode cX3_canBulge 10 = .ok (.irem, 1) := by decide +kernel
theorem dX3_canBulge_11 : decode cX3_canBulge 11 = .ok (.aload_n 0, 1) := by decide +kernel
theorem dX3_canBulge_12 : decode cX3_canBulge 12 = .ok (.iload_n 1, 1) := by decide +kernel
theorem dX3_canBulge_13 : decode cX3_canBulge 13 = .ok (.invokevirtual 70, 3) := by decide +kernel
theorem dX3_canBulge_16 : decode cX3_canBulge 16 = .ok (.iconst 2, 1) := by decide +kernel
theorem dX3_canBulge_17 : decode cX3_canBulge 17 = .ok (.irem, 1) := by decide +kernel
theorem dX3_canBulge_18 : decode cX3_canBulge 18 = .ok (.if_icmp .eq 15, 3) := by decide +kernel
theorem dX3_canBulge_21 : decode cX3_canBulge 21 = .ok (.aload_n 0, 1) := by decide +kernel
theorem dX3_canBulge_22 : decode cX3_canBulge 22 = .ok (.invokevirtual 49, 3) := by decide +kernel
theorem dX3_canBulge_25 : decode cX3_canBulge 25 = .ok (.iconst 2, 1) := by decide +kernel
theorem dX3_canBulge_26 : decode cX3_canBulge 26 = .ok (.iadd, 1) := by decide +kernel
theorem dX3_canBulge_27 : decode cX3_canBulge 27 = .ok (.sipush 150, 3) := by decide +kernel
theorem dX3_canBulge_30 : decode cX3_canBulge 30 = .ok (.if_icmp .le 5, 3) := by decide +kernel
theorem dX3_canBulge_33 : decode cX3_canBulge 33 = .ok (.iconst 0, 1) := by decide +kernel
theorem dX3_canBulge_34 : decode cX3_canBulge 34 = .ok (.ireturn, 1) := by decide +kernel
theorem dX3_canBulge_35 : decode cX3_canBulge 35 = .ok (.iconst (-1), 1) := by decide +kernel
theorem dX3_canBulge_36 : decode cX3_canBulge 36 = .ok (.istore_n 3, 1) := by decide +kernel
theorem dX3_canBulge_37 : decode cX3_canBulge 37 = .ok (.iload_n 3, 1) := by decide +kernel
theorem dX3_canBulge_38 : decode cX3_canBulge 38 = .ok (.iconst 2, 1) := by decide +kernel
theorem dX3_canBulge_39 : decode cX3_canBulge 39 = .ok (.if_icmp .ge 52, 3) := by decide +kernel
theorem dX3_canBulge_42 : decode cX3_canBulge 42 = .ok (.aload_n 0, 1) := by decide +kernel
theorem dX3_canBulge_43 : decode cX3_canBulge 43 = .ok (.getfield 23, 3) := by decide +kernel
theorem dX3_canBulge_46 : decode cX3_canBulge 46 = .ok (.iload_n 1, 1) := by decide +kernel
theorem dX3_canBulge_47 : decode cX3_canBulge 47 = .ok (.iload_n 3, 1) := by decide +kernel
theorem dX3_canBulge_48 : decode cX3_canBulge 48 = .ok (.iadd, 1) := by decide +kernel
theorem dX3_canBulge_49 : decode cX3_canBulge 49 = .ok (.iaload, 1) := by decide +kernel
theorem dX3_canBulge_50 : decode cX3_canBulge 50 = .ok (.iload_n 2, 1) := by decide +kernel
theorem dX3_canBulge_51 : decode cX3_canBulge 51 = .ok (.invokestatic 80, 3) := by decide +kernel
theorem dX3_canBulge_54 : decode cX3_canBulge 54 = .ok (.istore 4, 2) := by decide +kernel
theorem dX3_canBulge_56 : decode cX3_canBulge 56 = .ok (.iload 4, 2) := by decide +kernel
theorem dX3_canBulge_58 : decode cX3_canBulge 58 = .ok (.iconst (-1), 1) := by decide +kernel
theorem dX3_canBulge_59 : decode cX3_canBulge 59 = .ok (.if_icmp .eq 24, 3) := by decide +kernel
theorem dX3_canBulge_62 : decode cX3_canBulge 62 = .ok (.aload_n 0, 1) := by decide +kernel
theorem dX3_canBulge_63 : decode cX3_canBulge 63 = .ok (.getfield 26, 3) := by decide +kernel
theorem dX3_canBulge_66 : decode cX3_canBulge 66 = .ok (.iload 4, 2) := by decide +kernel
theorem dX3_canBulge_68 : decode cX3_canBulge 68 = .ok (.iaload, 1) := by decide +kernel
theorem dX3_canBulge_69 : decode cX3_canBulge 69 = .ok (.iconst (-1), 1) := by decide +kernel
theorem dX3_canBulge_70 : decode cX3_canBulge 70 = .ok (.if_icmp .ne 13, 3) := by decide +kernel
theorem dX3_canBulge_73 : decode cX3_canBulge 73 = .ok (.aload_n 0, 1) := by decide +kernel
theorem dX3_canBulge_74 : decode cX3_canBulge 74 = .ok (.getfield 13, 3) := by decide +kernel
theorem dX3_canBulge_77 : decode cX3_canBulge 77 = .ok (.iload 4, 2) := by decide +kernel
theorem dX3_canBulge_79 : decode cX3_canBulge 79 = .ok (.baload, 1) := by decide +kernel
theorem dX3_canBulge_80 : decode cX3_canBulge 80 = .ok (.ifCond .eq 5, 3) := by decide +kernel
theorem dX3_canBulge_83 : decode cX3_canBulge 83 = .ok (.iconst 0, 1) := by decide +kernel
theorem dX3_canBulge_84 : decode cX3_canBulge 84 = .ok (.ireturn, 1) := by decide +kernel
theorem dX3_canBulge_85 : decode cX3_canBulge 85 = .ok (.iinc 3 1, 3) := by decide +kernel
theorem dX3_canBulge_88 : decode cX3_canBulge 88 = .ok (.goto (-51), 3) := by decide +kernel
theorem dX3_canBulge_91 : decode cX3_canBulge 91 = .ok (.iconst 1, 1) := by decide +kernel
theorem dX3_canBulge_92 : decode cX3_canBulge 92 = .ok (.ireturn, 1) := by decide +kernel
set_option maxRecDepth 20000 in
theorem ggX3_bulge_X3_beside : GoodIn wsX3_bulge wsX3_beside := goodIn_r _ [8, 9, 10, 7, 11, 12, 13, 14] (by decide +kernel) (by decide +kernel)
set_option maxRecDepth 20000 in
theorem gX3_bulge_X3_beside : GoodIn wsX3_bulge (va_wsS RX3 80 yX3_beside wsX3_beside) := goodIn_app (goodIn_of _ (by decide +kernel)) ggX3_bulge_X3_beside
set_option maxRecDepth 20000 in
theorem ggX3_bulge_X3_length : GoodIn wsX3_bulge wsX3_length := goodIn_r _ [18, 4, 24, 25, 26, 27, 28, 29, 30, 31, 32, 33, 34] (by decide +kernel) (by decide +kernel)
set_option maxRecDepth 20000 in
theorem gX3_bulge_X3_length : GoodIn wsX3_bulge (wsV RX3 49 RX3 yX3_length wsX3_length) := goodIn_app (goodIn_of _ (by decide +kernel)) ggX3_bulge_X3_length
set_option maxRecDepth 20000 in
theorem ggX3_bulge_X3_place : GoodIn wsX3_bulge wsX3_place := goodIn_r _ [22, 23, 1, 15, 16, 17, 7, 18, 4, 24, 25, 26, 27, 28, 29, 30, 31, 32, 33, 34] (by decide +kernel) (by decide +kernel)
set_option maxRecDepth 20000 in
theorem gX3_bulge_X3_place : GoodIn wsX3_bulge (wsV RX3 38 RX3 yX3_place wsX3_place) := goodIn_app (goodIn_of _ (by decide +kernel)) ggX3_bulge_X3_place
theorem dX3_bulge_0 : decode cX3_bulge 0 = .ok (.aload_n 0, 1) := by decide +kernel
theorem dX3_bulge_1 : decode cX3_bulge 1 = .ok (.getfield 23, 3) := by decide +kernel
theorem dX3_bulge_4 : decode cX3_bulge 4 = .ok (.iload_n 1, 1) := by decide +kernel
theorem dX3_bulge_5 : decode cX3_bulge 5 = .ok (.iconst 1, 1) := by decide +kernel
theorem dX3_bulge_6 : decode cX3_bulge 6 = .ok (.isub, 1) := by decide +kernel
theorem dX3_bulge_7 : decode cX3_bulge 7 = .ok (.iaload, 1) := by decide +kernel
theorem dX3_bulge_8 : decode cX3_bulge 8 = .ok (.iload_n 2, 1) := by decide +kernel
theorem dX3_bulge_9 : decode cX3_bulge 9 = .ok (.invokestatic 80, 3) := by decide +kernel
theorem dX3_bulge_12 : decode cX3_bulge 12 = .ok (.istore_n 3, 1) := by decide +kernel
theorem dX3_bulge_13 : decode cX3_bulge 13 = .ok (.aload_n 0, 1) := by decide +kernel
theorem dX3_bulge_14 : decode cX3_bulge 14 = .ok (.getfield 23, 3) := by decide +kernel
theorem dX3_bulge_17 : decode cX3_bulge 17 = .ok (.iload_n 1, 1) := by decide +kernel
theorem dX3_bulge_18 : decode cX3_bulge 18 = .ok (.iaload, 1) := by decide +kernel
theorem dX3_bulge_19 : decode cX3_bulge 19 = .ok (.iload_n 2, 1) := by decide +kernel
theorem dX3_bulge_20 : decode cX3_bulge 20 = .ok (.invokestatic 80, 3) := by decide +kernel
theorem dX3_bulge_23 : decode cX3_bulge 23 = .ok (.istore 4, 2) := by decide +kernel
theorem dX3_bulge_25 : decode cX3_bulge 25 = .ok (.aload_n 0, 1) := by decide +kernel
theorem dX3_bulge_26 : decode cX3_bulge 26 = .ok (.getfield 23, 3) := by decide +kernel
theorem dX3_bulge_29 : decode cX3_bulge 29 = .ok (.iload_n 1, 1) := by decide +kernel
theorem dX3_bulge_30 : decode cX3_bulge 30 = .ok (.iconst 1, 1) := by decide +kernel
theorem dX3_bulge_31 : decode cX3_bulge 31 = .ok (.iadd, 1) := by decide +kernel
theorem dX3_bulge_32 : decode cX3_bulge 32 = .ok (.iaload, 1) := by decide +kernel
theorem dX3_bulge_33 : decode cX3_bulge 33 = .ok (.iload_n 2, 1) := by decide +kernel
theorem dX3_bulge_34 : decode cX3_bulge 34 = .ok (.invokestatic 80, 3) := by decide +kernel
theorem dX3_bulge_37 : decode cX3_bulge 37 = .ok (.istore 5, 2) := by decide +kernel
theorem dX3_bulge_39 : decode cX3_bulge 39 = .ok (.aload_n 0, 1) := by decide +kernel
theorem dX3_bulge_40 : decode cX3_bulge 40 = .ok (.invokevirtual 49, 3) := by decide +kernel
theorem dX3_bulge_43 : decode cX3_bulge 43 = .ok (.iconst 1, 1) := by decide +kernel
theorem dX3_bulge_44 : decode cX3_bulge 44 = .ok (.isub, 1) := by decide +kernel
theorem dX3_bulge_45 : decode cX3_bulge 45 = .ok (.istore 6, 2) := by decide +kernel
theorem dX3_bulge_47 : decode cX3_bulge 47 = .ok (.iload 6, 2) := by decide +kernel
theorem dX3_bulge_49 : decode cX3_bulge 49 = .ok (.iload_n 1, 1) := by decide +kernel
theorem dX3_bulge_50 : decode cX3_bulge 50 = .ok (.if_icmp .le 25, 3) := by decide +kernel
theorem dX3_bulge_53 : decode cX3_bulge 53 = .ok (.aload_n 0, 1) := by decide +kernel
theorem dX3_bulge_54 : decode cX3_bulge 54 = .ok (.getfield 23, 3) := by decide +kernel
theorem dX3_bulge_57 : decode cX3_bulge 57 = .ok (.iload 6, 2) := by decide +kernel
theorem dX3_bulge_59 : decode cX3_bulge 59 = .ok (.iconst 2, 1) := by decide +kernel
theorem dX3_bulge_60 : decode cX3_bulge 60 = .ok (.iadd, 1) := by decide +kernel
theorem dX3_bulge_61 : decode cX3_bulge 61 = .ok (.aload_n 0, 1) := by decide +kernel
theorem dX3_bulge_62 : decode cX3_bulge 62 = .ok (.getfield 23, 3) := by decide +kernel
theorem dX3_bulge_65 : decode cX3_bulge 65 = .ok (.iload 6, 2) := by decide +kernel
theorem dX3_bulge_67 : decode cX3_bulge 67 = .ok (.iaload, 1) := by decide +kernel
theorem dX3_bulge_68 : decode cX3_bulge 68 = .ok (.iastore, 1) := by decide +kernel
theorem dX3_bulge_69 : decode cX3_bulge 69 = .ok (.iinc 6 (-1), 3) := by decide +kernel
theorem dX3_bulge_72 : decode cX3_bulge 72 = .ok (.goto (-25), 3) := by decide +kernel
theorem dX3_bulge_75 : decode cX3_bulge 75 = .ok (.aload_n 0, 1) := by decide +kernel
theorem dX3_bulge_76 : decode cX3_bulge 76 = .ok (.getfield 23, 3) := by decide +kernel
theorem dX3_bulge_79 : decode cX3_bulge 79 = .ok (.iload_n 1, 1) := by decide +kernel
theorem dX3_bulge_80 : decode cX3_bulge 80 = .ok (.iload_n 3, 1) := by decide +kernel
theorem dX3_bulge_81 : decode cX3_bulge 81 = .ok (.iastore, 1) := by decide +kernel
theorem dX3_bulge_82 : decode cX3_bulge 82 = .ok (.aload_n 0, 1) := by decide +kernel
theorem dX3_bulge_83 : decode cX3_bulge 83 = .ok (.getfield 23, 3) := by decide +kernel
theorem dX3_bulge_86 : decode cX3_bulge 86 = .ok (.iload_n 1, 1) := by decide +kernel
theorem dX3_bulge_87 : decode cX3_bulge 87 = .ok (.iconst 1, 1) := by decide +kernel
theorem dX3_bulge_88 : decode cX3_bulge 88 = .ok (.iadd, 1) := by decide +kernel
theorem dX3_bulge_89 : decode cX3_bulge 89 = .ok (.iload 4, 2) := by decide +kernel
theorem dX3_bulge_91 : decode cX3_bulge 91 = .ok (.iastore, 1) := by decide +kernel
theorem dX3_bulge_92 : decode cX3_bulge 92 = .ok (.aload_n 0, 1) := by decide +kernel
theorem dX3_bulge_93 : decode cX3_bulge 93 = .ok (.getfield 23, 3) := by decide +kernel
theorem dX3_bulge_96 : decode cX3_bulge 96 = .ok (.iload_n 1, 1) := by decide +kernel
theorem dX3_bulge_97 : decode cX3_bulge 97 = .ok (.iconst 2, 1) := by decide +kernel
theorem dX3_bulge_98 : decode cX3_bulge 98 = .ok (.iadd, 1) := by decide +kernel
theorem dX3_bulge_99 : decode cX3_bulge 99 = .ok (.iload 5, 2) := by decide +kernel
theorem dX3_bulge_101 : decode cX3_bulge 101 = .ok (.iastore, 1) := by decide +kernel
theorem dX3_bulge_102 : decode cX3_bulge 102 = .ok (.iconst 0, 1) := by decide +kernel
theorem dX3_bulge_103 : decode cX3_bulge 103 = .ok (.istore 6, 2) := by decide +kernel
theorem dX3_bulge_105 : decode cX3_bulge 105 = .ok (.iload 6, 2) := by decide +kernel
theorem dX3_bulge_107 : decode cX3_bulge 107 = .ok (.iconst 3, 1) := by decide +kernel
theorem dX3_bulge_108 : decode cX3_bulge 108 = .ok (.if_icmp .ge 39, 3) := by decide +kernel
theorem dX3_bulge_111 : decode cX3_bulge 111 = .ok (.aload_n 0, 1) := by decide +kernel
theorem dX3_bulge_112 : decode cX3_bulge 112 = .ok (.getfield 29, 3) := by decide +kernel
theorem dX3_bulge_115 : decode cX3_bulge 115 = .ok (.aload_n 0, 1) := by decide +kernel
theorem dX3_bulge_116 : decode cX3_bulge 116 = .ok (.getfield 23, 3) := by decide +kernel
theorem dX3_bulge_119 : decode cX3_bulge 119 = .ok (.iload_n 1, 1) := by decide +kernel
theorem dX3_bulge_120 : decode cX3_bulge 120 = .ok (.iload 6, 2) := by decide +kernel
theorem dX3_bulge_122 : decode cX3_bulge 122 = .ok (.iadd, 1) := by decide +kernel
theorem dX3_bulge_123 : decode cX3_bulge 123 = .ok (.iaload, 1) := by decide +kernel
theorem dX3_bulge_124 : decode cX3_bulge 124 = .ok (.iconst 0, 1) := by decide +kernel
theorem dX3_bulge_125 : decode cX3_bulge 125 = .ok (.iastore, 1) := by decide +kernel
theorem dX3_bulge_126 : decode cX3_bulge 126 = .ok (.aload_n 0, 1) := by decide +kernel
theorem dX3_bulge_127 : decode cX3_bulge 127 = .ok (.getfield 32, 3) := by decide +kernel
theorem dX3_bulge_130 : decode cX3_bulge 130 = .ok (.aload_n 0, 1) := by decide +kernel
theorem dX3_bulge_131 : decode cX3_bulge 131 = .ok (.getfield 23, 3) := by decide +kernel
theorem dX3_bulge_134 : decode cX3_bulge 134 = .ok (.iload_n 1, 1) := by decide +kernel
theorem dX3_bulge_135 : decode cX3_bulge 135 = .ok (.iload 6, 2) := by decide +kernel
theorem dX3_bulge_137 : decode cX3_bulge 137 = .ok (.iadd, 1) := by decide +kernel
theorem dX3_bulge_138 : decode cX3_bulge 138 = .ok (.iaload, 1) := by decide +kernel
theorem dX3_bulge_139 : decode cX3_bulge 139 = .ok (.iconst 0, 1) := by decide +kernel
theorem dX3_bulge_140 : decode cX3_bulge 140 = .ok (.iastore, 1) := by decide +kernel
theorem dX3_bulge_141 : decode cX3_bulge 141 = .ok (.iinc 6 1, 3) := by decide +kernel
theorem dX3_bulge_144 : decode cX3_bulge 144 = .ok (.goto (-39), 3) := by decide +kernel
theorem dX3_bulge_147 : decode cX3_bulge 147 = .ok (.aload_n 0, 1) := by decide +kernel
theorem dX3_bulge_148 : decode cX3_bulge 148 = .ok (.getfield 35, 3) := by decide +kernel
theorem dX3_bulge_151 : decode cX3_bulge 151 = .ok (.iconst 2, 1) := by decide +kernel
theorem dX3_bulge_152 : decode cX3_bulge 152 = .ok (.dup2, 1) := by decide +kernel
theorem dX3_bulge_153 : decode cX3_bulge 153 = .ok (.iaload, 1) := by decide +kernel
theorem dX3_bulge_154 : decode cX3_bulge 154 = .ok (.iconst 2, 1) := by decide +kernel
theorem dX3_bulge_155 : decode cX3_bulge 155 = .ok (.iadd, 1) := by decide +kernel
theorem dX3_bulge_156 : decode cX3_bulge 156 = .ok (.iastore, 1) := by decide +kernel
theorem dX3_bulge_157 : decode cX3_bulge 157 = .ok (.aload_n 0, 1) := by decide +kernel
theorem dX3_bulge_158 : decode cX3_bulge 158 = .ok (.invokevirtual 38, 3) := by decide +kernel
theorem dX3_bulge_161 : decode cX3_bulge 161 = .ok (.return_, 1) := by decide +kernel
set_option maxRecDepth 20000 in
theorem ggX3_slip_X3_isCourse : GoodIn wsX3_slip wsX3_isCourse := goodIn_r _ [6, 7, 8, 9, 5, 10, 11, 12, 13, 14, 50, 51, 52, 53, 54, 55, 56, 57, 58, 59, 60] (by decide +kernel) (by decide +kernel)
set_option maxRecDepth 20000 in
theorem gX3_slip_X3_isCourse : GoodIn wsX3_slip (wsV RX3 84 RX3 yX3_isCourse wsX3_isCourse) := goodIn_app (goodIn_of _ (by decide +kernel)) ggX3_slip_X3_isCourse
set_option maxRecDepth 20000 in
theorem ggX3_slip_X3_fail : GoodIn wsX3_slip wsX3_fail := goodIn_r _ [18, 1, 50, 51, 52, 53, 54, 55, 56, 57, 58, 59, 60] (by decide +kernel) (by decide +kernel)
set_option maxRecDepth 20000 in
theorem gX3_slip_X3_fail : GoodIn wsX3_slip (wsV RX3 57 RX3 yX3_fail wsX3_fail) := goodIn_app (goodIn_of _ (by decide +kernel)) ggX3_slip_X3_fail
set_option maxRecDepth 20000 in
theorem ggX3_slip_X3_isIn : GoodIn wsX3_slip wsX3_isIn := goodIn_r _ [14] (by decide +kernel) (by decide +kernel)
set_option maxRecDepth 20000 in
theorem gX3_slip_X3_isIn : GoodIn wsX3_slip (va_wsS RX3 45 yX3_isIn wsX3_isIn) := goodIn_app (goodIn_of _ (by decide +kernel)) ggX3_slip_X3_isIn
set_option maxRecDepth 20000 in
theorem ggX3_slip_X3_canBulge : GoodIn wsX3_slip wsX3_canBulge := goodIn_r _ [22, 23, 24, 25, 26, 27, 28, 5, 29, 7, 8, 9, 10, 11, 30, 31, 32, 33, 34, 35, 36, 37, 38, 39, 12, 13, 14, 50, 51, 52, 53, 54, 55, 56, 57, 58, 59, 60] (by decide +kernel) (by decide +kernel)
set_option maxRecDepth 20000 in
theorem gX3_slip_X3_canBulge : GoodIn wsX3_slip (wsV RX3 90 RX3 yX3_canBulge wsX3_canBulge) := goodIn_app (goodIn_of _ (by decide +kernel)) ggX3_slip_X3_canBulge
set_option maxRecDepth 20000 in
theorem ggX3_slip_X3_bulge : GoodIn wsX3_slip wsX3_bulge := goodIn_r _ [43, 23, 44, 45, 11, 34, 35, 5, 36, 37, 38, 39, 12, 13, 14, 7, 8, 9, 10, 46, 47, 48, 49, 24, 50, 51, 52, 53, 54, 55, 56, 57, 58, 59, 60] (by decide +kernel) (by decide +kernel)
set_option maxRecDepth 20000 in
theorem gX3_slip_X3_bulge : GoodIn wsX3_slip (wsV RX3 93 RX3 yX3_bulge wsX3_bulge) := goodIn_app (goodIn_of _ (by decide +kernel)) ggX3_slip_X3_bulge
set_option maxRecDepth 20000 in
theorem ggX3_slip_X3_length : GoodIn wsX3_slip wsX3_length := goodIn_r _ [10, 11, 50, 51, 52, 53, 54, 55, 56, 57, 58, 59, 60] (by decide +kernel) (by decide +kernel)
set_option maxRecDepth 20000 in
theorem gX3_slip_X3_length : GoodIn wsX3_slip (wsV RX3 49 RX3 yX3_length wsX3_length) := goodIn_app (goodIn_of _ (by decide +kernel)) ggX3_slip_X3_length
theorem dX3_slip_0 : decode cX3_slip 0 = .ok (.aload_n 0, 1) := by decide +kernel
theorem dX3_slip_1 : decode cX3_slip 1 = .ok (.iconst 0, 1) := by decide +kernel
theorem dX3_slip_2 : decode cX3_slip 2 = .ok (.putfield 41, 3) := by decide +kernel
theorem dX3_slip_5 : decode cX3_slip 5 = .ok (.aload_n 0, 1) := by decide +kernel
theorem dX3_slip_6 : decode cX3_slip 6 = .ok (.iload_n 1, 1) := by decide +kernel
theorem dX3_slip_7 : decode cX3_slip 7 = .ok (.invokevirtual 84, 3) := by decide +kernel
theorem dX3_slip_10 : decode cX3_slip 10 = .ok (.ifCond .ne 9, 3) := by decide +kernel
theorem dX3_slip_13 : decode cX3_slip 13 = .ok (.aload_n 0, 1) := by decide +kernel
theorem dX3_slip_14 : decode cX3_slip 14 = .ok (.iconst 1, 1) := by decide +kernel
theorem dX3_slip_15 : decode cX3_slip 15 = .ok (.invokevirtual 57, 3) := by decide +kernel
theorem dX3_slip_18 : decode cX3_slip 18 = .ok (.ireturn, 1) := by decide +kernel
theorem dX3_slip_19 : decode cX3_slip 19 = .ok (.iload_n 2, 1) := by decide +kernel
theorem dX3_slip_20 : decode cX3_slip 20 = .ok (.iconst 0, 1) := by decide +kernel
theorem dX3_slip_21 : decode cX3_slip 21 = .ok (.iconst 3, 1) := by decide +kernel
theorem dX3_slip_22 : decode cX3_slip 22 = .ok (.invokestatic 45, 3) := by decide +kernel
theorem dX3_slip_25 : decode cX3_slip 25 = .ok (.ifCond .ne 9, 3) := by decide +kernel
theorem dX3_slip_28 : decode cX3_slip 28 = .ok (.aload_n 0, 1) := by decide +kernel
theorem dX3_slip_29 : decode cX3_slip 29 = .ok (.iconst 2, 1) := by decide +kernel
theorem dX3_slip_30 : decode cX3_slip 30 = .ok (.invokevirtual 57, 3) := by decide +kernel
theorem dX3_slip_33 : decode cX3_slip 33 = .ok (.ireturn, 1) := by decide +kernel
theorem dX3_slip_34 : decode cX3_slip 34 = .ok (.aload_n 0, 1) := by decide +kernel
theorem dX3_slip_35 : decode cX3_slip 35 = .ok (.iload_n 1, 1) := by decide +kernel
theorem dX3_slip_36 : decode cX3_slip 36 = .ok (.iload_n 2, 1) := by decide +kernel
theorem dX3_slip_37 : decode cX3_slip 37 = .ok (.invokevirtual 90, 3) := by decide +kernel
theorem dX3_slip_40 : decode cX3_slip 40 = .ok (.ifCond .ne 9, 3) := by decide +kernel
theorem dX3_slip_43 : decode cX3_slip 43 = .ok (.aload_n 0, 1) := by decide +kernel
theorem dX3_slip_44 : decode cX3_slip 44 = .ok (.iconst 3, 1) := by decide +kernel
theorem dX3_slip_45 : decode cX3_slip 45 = .ok (.invokevirtual 57, 3) := by decide +kernel
theorem dX3_slip_48 : decode cX3_slip 48 = .ok (.ireturn, 1) := by decide +kernel
theorem dX3_slip_49 : decode cX3_slip 49 = .ok (.aload_n 0, 1) := by decide +kernel
theorem dX3_slip_50 : decode cX3_slip 50 = .ok (.iload_n 1, 1) := by decide +kernel
theorem dX3_slip_51 : decode cX3_slip 51 = .ok (.iload_n 2, 1) := by decide +kernel
theorem dX3_slip_52 : decode cX3_slip 52 = .ok (.invokevirtual 93, 3) := by decide +kernel
theorem dX3_slip_55 : decode cX3_slip 55 = .ok (.aload_n 0, 1) := by decide +kernel
theorem dX3_slip_56 : decode cX3_slip 56 = .ok (.invokevirtual 49, 3) := by decide +kernel
theorem dX3_slip_59 : decode cX3_slip 59 = .ok (.ireturn, 1) := by decide +kernel
theorem dX3_isNeck_0 : decode cX3_isNeck 0 = .ok (.iload_n 2, 1) := by decide +kernel
theorem dX3_isNeck_1 : decode cX3_isNeck 1 = .ok (.iload_n 1, 1) := by decide +kernel
theorem dX3_isNeck_2 : decode cX3_isNeck 2 = .ok (.iconst 3, 1) := by decide +kernel
theorem dX3_isNeck_3 : decode cX3_isNeck 3 = .ok (.iadd, 1) := by decide +kernel
theorem dX3_isNeck_4 : decode cX3_isNeck 4 = .ok (.if_icmp .ge 5, 3) := by decide +kernel
theorem dX3_isNeck_7 : decode cX3_isNeck 7 = .ok (.iconst 0, 1) := by decide +kernel
theorem dX3_isNeck_8 : decode cX3_isNeck 8 = .ok (.ireturn, 1) := by decide +kernel
theorem dX3_isNeck_9 : decode cX3_isNeck 9 = .ok (.aload_n 0, 1) := by decide +kernel
theorem dX3_isNeck_10 : decode cX3_isNeck 10 = .ok (.getfield 23, 3) := by decide +kernel
theorem dX3_isNeck_13 : decode cX3_isNeck 13 = .ok (.iload_n 1, 1) := by decide +kernel
theorem dX3_isNeck_14 : decode cX3_isNeck 14 = .ok (.iaload, 1) := by decide +kernel
theorem dX3_isNeck_15 : decode cX3_isNeck 15 = .ok (.bipush 24, 2) := by decide +kernel
theorem dX3_isNeck_17 : decode cX3_isNeck 17 = .ok (.irem, 1) := by decide +kernel
theorem dX3_isNeck_18 : decode cX3_isNeck 18 = .ok (.aload_n 0, 1) := by decide +kernel
theorem dX3_isNeck_19 : decode cX3_isNeck 19 = .ok (.getfield 23, 3) := by decide +kernel
theorem dX3_isNeck_22 : decode cX3_isNeck 22 = .ok (.iload_n 2, 1) := by decide +kernel
theorem dX3_isNeck_23 : decode cX3_isNeck 23 = .ok (.iaload, 1) := by decide +kernel
theorem dX3_isNeck_24 : decode cX3_isNeck 24 = .ok (.bipush 24, 2) := by decide +kernel
theorem dX3_isNeck_26 : decode cX3_isNeck 26 = .ok (.irem, 1) := by decide +kernel
theorem dX3_isNeck_27 : decode cX3_isNeck 27 = .ok (.isub, 1) := by decide +kernel
theorem dX3_isNeck_28 : decode cX3_isNeck 28 = .ok (.invokestatic 97, 3) := by decide +kernel
theorem dX3_isNeck_31 : decode cX3_isNeck 31 = .ok (.istore_n 3, 1) := by decide +kernel
theorem dX3_isNeck_32 : decode cX3_isNeck 32 = .ok (.aload_n 0, 1) := by decide +kernel
theorem dX3_isNeck_33 : decode cX3_isNeck 33 = .ok (.getfield 23, 3) := by decide +kernel
theorem dX3_isNeck_36 : decode cX3_isNeck 36 = .ok (.iload_n 1, 1) := by decide +kernel
theorem dX3_isNeck_37 : decode cX3_isNeck 37 = .ok (.iaload, 1) := by decide +kernel
theorem dX3_isNeck_38 : decode cX3_isNeck 38 = .ok (.bipush 24, 2) := by decide +kernel
theorem dX3_isNeck_40 : decode cX3_isNeck 40 = .ok (.idiv, 1) := by decide +kernel
theorem dX3_isNeck_41 : decode cX3_isNeck 41 = .ok (.aload_n 0, 1) := by decide +kernel
theorem dX3_isNeck_42 : decode cX3_isNeck 42 = .ok (.getfield 23, 3) := by decide +kernel
theorem dX3_isNeck_45 : decode cX3_isNeck 45 = .ok (.iload_n 2, 1) := by decide +kernel
theorem dX3_isNeck_46 : decode cX3_isNeck 46 = .ok (.iaload, 1) := by decide +kernel
theorem dX3_isNeck_47 : decode cX3_isNeck 47 = .ok (.bipush 24, 2) := by decide +kernel
theorem dX3_isNeck_49 : decode cX3_isNeck 49 = .ok (.idiv, 1) := by decide +kernel
theorem dX3_isNeck_50 : decode cX3_isNeck 50 = .ok (.isub, 1) := by decide +kernel
theorem dX3_isNeck_51 : decode cX3_isNeck 51 = .ok (.invokestatic 97, 3) := by decide +kernel
theorem dX3_isNeck_54 : decode cX3_isNeck 54 = .ok (.istore 4, 2) := by decide +kernel
theorem dX3_isNeck_56 : decode cX3_isNeck 56 = .ok (.iload_n 3, 1) := by decide +kernel
theorem dX3_isNeck_57 : decode cX3_isNeck 57 = .ok (.iload 4, 2) := by decide +kernel
theorem dX3_isNeck_59 : decode cX3_isNeck 59 = .ok (.iadd, 1) := by decide +kernel
theorem dX3_isNeck_60 : decode cX3_isNeck 60 = .ok (.iconst 1, 1) := by decide +kernel
theorem dX3_isNeck_61 : decode cX3_isNeck 61 = .ok (.if_icmp .ne 7, 3) := by decide +kernel
theorem dX3_isNeck_64 : decode cX3_isNeck 64 = .ok (.iconst 1, 1) := by decide +kernel
theorem dX3_isNeck_65 : decode cX3_isNeck 65 = .ok (.goto 4, 3) := by decide +kernel
theorem dX3_isNeck_68 : decode cX3_isNeck 68 = .ok (.iconst 0, 1) := by decide +kernel
theorem dX3_isNeck_69 : decode cX3_isNeck 69 = .ok (.ireturn, 1) := by decide +kernel
set_option maxRecDepth 20000 in
theorem ggX3_breakThrough_X3_length : GoodIn wsX3_breakThrough wsX3_length := goodIn_r _ [8, 3, 14, 15, 16, 17, 18, 19, 20, 21, 22, 23, 24] (by decide +kernel) (by decide +kernel)
set_option maxRecDepth 20000 in
theorem gX3_breakThrough_X3_length : GoodIn wsX3_breakThrough (wsV RX3 49 RX3 yX3_length wsX3_length) := goodIn_app (goodIn_of _ (by decide +kernel)) ggX3_breakThrough_X3_length
set_option maxRecDepth 20000 in
theorem ggX3_breakThrough_X3_place : GoodIn wsX3_breakThrough wsX3_place := goodIn_r _ [12, 13, 2, 4, 5, 6, 7, 8, 3, 14, 15, 16, 17, 18, 19, 20, 21, 22, 23, 24] (by decide +kernel) (by decide +kernel)
set_option maxRecDepth 20000 in
theorem gX3_breakThrough_X3_place : GoodIn wsX3_breakThrough (wsV RX3 38 RX3 yX3_place wsX3_place) := goodIn_app (goodIn_of _ (by decide +kernel)) ggX3_breakThrough_X3_place
theorem dX3_breakThrough_0 : decode cX3_breakThrough 0 = .ok (.iload_n 1, 1) := by decide +kernel
theorem dX3_breakThrough_1 : decode cX3_breakThrough 1 = .ok (.iconst 1, 1) := by decide +kernel
theorem dX3_breakThrough_2 : decode cX3_breakThrough 2 = .ok (.iadd, 1) := by decide +kernel
theorem dX3_breakThrough_3 : decode cX3_breakThrough 3 = .ok (.istore_n 3, 1) := by decide +kernel
theorem dX3_breakThrough_4 : decode cX3_breakThrough 4 = .ok (.iload_n 3, 1) := by decide +kernel
theorem dX3_breakThrough_5 : decode cX3_breakThrough 5 = .ok (.iload_n 2, 1) := by decide +kernel
theorem dX3_breakThrough_6 : decode cX3_breakThrough 6 = .ok (.if_icmp .ge 22, 3) := by decide +kernel
theorem dX3_breakThrough_9 : decode cX3_breakThrough 9 = .ok (.aload_n 0, 1) := by decide +kernel
theorem dX3_breakThrough_10 : decode cX3_breakThrough 10 = .ok (.getfield 32, 3) := by decide +kernel
theorem dX3_breakThrough_13 : decode cX3_breakThrough 13 = .ok (.aload_n 0, 1) := by decide +kernel
theorem dX3_breakThrough_14 : decode cX3_breakThrough 14 = .ok (.getfield 23, 3) := by decide +kernel
theorem dX3_breakThrough_17 : decode cX3_breakThrough 17 = .ok (.iload_n 3, 1) := by decide +kernel
theorem dX3_breakThrough_18 : decode cX3_breakThrough 18 = .ok (.iaload, 1) := by decide +kernel
theorem dX3_breakThrough_19 : decode cX3_breakThrough 19 = .ok (.bipush 10, 2) := by decide +kernel
theorem dX3_breakThrough_21 : decode cX3_breakThrough 21 = .ok (.iastore, 1) := by decide +kernel
theorem dX3_breakThrough_22 : decode cX3_breakThrough 22 = .ok (.iinc 3 1, 3) := by decide +kernel
theorem dX3_breakThrough_25 : decode cX3_breakThrough 25 = .ok (.goto (-21), 3) := by decide +kernel
theorem dX3_breakThrough_28 : decode cX3_breakThrough 28 = .ok (.iload_n 2, 1) := by decide +kernel
theorem dX3_breakThrough_29 : decode cX3_breakThrough 29 = .ok (.istore_n 3, 1) := by decide +kernel
theorem dX3_breakThrough_30 : decode cX3_breakThrough 30 = .ok (.iload_n 3, 1) := by decide +kernel
theorem dX3_breakThrough_31 : decode cX3_breakThrough 31 = .ok (.aload_n 0, 1) := by decide +kernel
theorem dX3_breakThrough_32 : decode cX3_breakThrough 32 = .ok (.invokevirtual 49, 3) := by decide +kernel
theorem dX3_breakThrough_35 : decode cX3_breakThrough 35 = .ok (.if_icmp .ge 27, 3) := by decide +kernel
theorem dX3_breakThrough_38 : decode cX3_breakThrough 38 = .ok (.aload_n 0, 1) := by decide +kernel
theorem dX3_breakThrough_39 : decode cX3_breakThrough 39 = .ok (.getfield 23, 3) := by decide +kernel
theorem dX3_breakThrough_42 : decode cX3_breakThrough 42 = .ok (.iload_n 3, 1) := by decide +kernel
theorem dX3_breakThrough_43 : decode cX3_breakThrough 43 = .ok (.iload_n 2, 1) := by decide +kernel
theorem dX3_breakThrough_44 : decode cX3_breakThrough 44 = .ok (.isub, 1) := by decide +kernel
theorem dX3_breakThrough_45 : decode cX3_breakThrough 45 = .ok (.iload_n 1, 1) := by decide +kernel
theorem dX3_breakThrough_46 : decode cX3_breakThrough 46 = .ok (.iadd, 1) := by decide +kernel
theorem dX3_breakThrough_47 : decode cX3_breakThrough 47 = .ok (.iconst 1, 1) := by decide +kernel
theorem dX3_breakThrough_48 : decode cX3_breakThrough 48 = .ok (.iadd, 1) := by decide +kernel
theorem dX3_breakThrough_49 : decode cX3_breakThrough 49 = .ok (.aload_n 0, 1) := by decide +kernel
theorem dX3_breakThrough_50 : decode cX3_breakThrough 50 = .ok (.getfield 23, 3) := by decide +kernel
theorem dX3_breakThrough_53 : decode cX3_breakThrough 53 = .ok (.iload_n 3, 1) := by decide +kernel
theorem dX3_breakThrough_54 : decode cX3_breakThrough 54 = .ok (.iaload, 1) := by decide +kernel
theorem dX3_breakThrough_55 : decode cX3_breakThrough 55 = .ok (.iastore, 1) := by decide +kernel
theorem dX3_breakThrough_56 : decode cX3_breakThrough 56 = .ok (.iinc 3 1, 3) := by decide +kernel
theorem dX3_breakThrough_59 : decode cX3_breakThrough 59 = .ok (.goto (-29), 3) := by decide +kernel
theorem dX3_breakThrough_62 : decode cX3_breakThrough 62 = .ok (.aload_n 0, 1) := by decide +kernel
theorem dX3_breakThrough_63 : decode cX3_breakThrough 63 = .ok (.getfield 35, 3) := by decide +kernel
theorem dX3_breakThrough_66 : decode cX3_breakThrough 66 = .ok (.iconst 2, 1) := by decide +kernel
theorem dX3_breakThrough_67 : decode cX3_breakThrough 67 = .ok (.dup2, 1) := by decide +kernel
theorem dX3_breakThrough_68 : decode cX3_breakThrough 68 = .ok (.iaload, 1) := by decide +kernel
theorem dX3_breakThrough_69 : decode cX3_breakThrough 69 = .ok (.iload_n 2, 1) := by decide +kernel
theorem dX3_breakThrough_70 : decode cX3_breakThrough 70 = .ok (.iload_n 1, 1) := by decide +kernel
theorem dX3_breakThrough_71 : decode cX3_breakThrough 71 = .ok (.isub, 1) := by decide +kernel
theorem dX3_breakThrough_72 : decode cX3_breakThrough 72 = .ok (.iconst 1, 1) := by decide +kernel
theorem dX3_breakThrough_73 : decode cX3_breakThrough 73 = .ok (.isub, 1) := by decide +kernel
theorem dX3_breakThrough_74 : decode cX3_breakThrough 74 = .ok (.isub, 1) := by decide +kernel
theorem dX3_breakThrough_75 : decode cX3_breakThrough 75 = .ok (.iastore, 1) := by decide +kernel
theorem dX3_breakThrough_76 : decode cX3_breakThrough 76 = .ok (.aload_n 0, 1) := by decide +kernel
theorem dX3_breakThrough_77 : decode cX3_breakThrough 77 = .ok (.getfield 35, 3) := by decide +kernel
theorem dX3_breakThrough_80 : decode cX3_breakThrough 80 = .ok (.iconst 1, 1) := by decide +kernel
theorem dX3_breakThrough_81 : decode cX3_breakThrough 81 = .ok (.dup2, 1) := by decide +kernel
theorem dX3_breakThrough_82 : decode cX3_breakThrough 82 = .ok (.iaload, 1) := by decide +kernel
theorem dX3_breakThrough_83 : decode cX3_breakThrough 83 = .ok (.iconst 1, 1) := by decide +kernel
theorem dX3_breakThrough_84 : decode cX3_breakThrough 84 = .ok (.iadd, 1) := by decide +kernel
theorem dX3_breakThrough_85 : decode cX3_breakThrough 85 = .ok (.iastore, 1) := by decide +kernel
theorem dX3_breakThrough_86 : decode cX3_breakThrough 86 = .ok (.aload_n 0, 1) := by decide +kernel
theorem dX3_breakThrough_87 : decode cX3_breakThrough 87 = .ok (.invokevirtual 38, 3) := by decide +kernel
theorem dX3_breakThrough_90 : decode cX3_breakThrough 90 = .ok (.return_, 1) := by decide +kernel
set_option maxRecDepth 20000 in
theorem ggX3_dig_X3_isCourse : GoodIn wsX3_dig wsX3_isCourse := goodIn_r _ [6, 7, 8, 9, 5, 10, 11, 12, 13, 14, 38, 39, 40, 41, 42, 43, 44, 45, 46, 47, 48] (by decide +kernel) (by decide +kernel)
set_option maxRecDepth 20000 in
theorem gX3_dig_X3_isCourse : GoodIn wsX3_dig (wsV RX3 84 RX3 yX3_isCourse wsX3_isCourse) := goodIn_app (goodIn_of _ (by decide +kernel)) ggX3_dig_X3_isCourse
set_option maxRecDepth 20000 in
theorem ggX3_dig_X3_fail : GoodIn wsX3_dig wsX3_fail := goodIn_r _ [18, 1, 38, 39, 40, 41, 42, 43, 44, 45, 46, 47, 48] (by decide +kernel) (by decide +kernel)
set_option maxRecDepth 20000 in
theorem gX3_dig_X3_fail : GoodIn wsX3_dig (wsV RX3 57 RX3 yX3_fail wsX3_fail) := goodIn_app (goodIn_of _ (by decide +kernel)) ggX3_dig_X3_fail
set_option maxRecDepth 20000 in
theorem ggX3_dig_X3_isNeck : GoodIn wsX3_dig wsX3_isNeck := goodIn_r _ [22, 23, 24, 25, 26, 27, 38, 39, 40, 41, 42, 43, 44, 45, 46, 47, 48] (by decide +kernel) (by decide +kernel)
set_option maxRecDepth 20000 in
theorem gX3_dig_X3_isNeck : GoodIn wsX3_dig (wsV RX3 102 RX3 yX3_isNeck wsX3_isNeck) := goodIn_app (goodIn_of _ (by decide +kernel)) ggX3_dig_X3_isNeck
set_option maxRecDepth 20000 in
theorem ggX3_dig_X3_breakThrough : GoodIn wsX3_dig wsX3_breakThrough := goodIn_r _ [31, 32, 23, 11, 7, 8, 9, 5, 10, 33, 34, 35, 36, 37, 38, 39, 40, 41, 42, 43, 44, 45, 46, 47, 48] (by decide +kernel) (by decide +kernel)
set_option maxRecDepth 20000 in
theorem gX3_dig_X3_breakThrough : GoodIn wsX3_dig (wsV RX3 105 RX3 yX3_breakThrough wsX3_breakThrough) := goodIn_app (goodIn_of _ (by decide +kernel)) ggX3_dig_X3_breakThrough
set_option maxRecDepth 20000 in
theorem ggX3_dig_X3_length : GoodIn wsX3_dig wsX3_length := goodIn_r _ [10, 11, 38, 39, 40, 41, 42, 43, 44, 45, 46, 47, 48] (by decide +kernel) (by decide +kernel)
set_option maxRecDepth 20000 in
theorem gX3_dig_X3_length : GoodIn wsX3_dig (wsV RX3 49 RX3 yX3_length wsX3_length) := goodIn_app (goodIn_of _ (by decide +kernel)) ggX3_dig_X3_length
theorem dX3_dig_0 : decode cX3_dig 0 = .ok (.aload_n 0, 1) := by decide +kernel
theorem dX3_dig_1 : decode cX3_dig 1 = .ok (.iconst 0, 1) := by decide +kernel
theorem dX3_dig_2 : decode cX3_dig 2 = .ok (.putfield 41, 3) := by decide +kernel
theorem dX3_dig_5 : decode cX3_dig 5 = .ok (.aload_n 0, 1) := by decide +kernel
theorem dX3_dig_6 : decode cX3_dig 6 = .ok (.iload_n 1, 1) := by decide +kernel
theorem dX3_dig_7 : decode cX3_dig 7 = .ok (.invokevirtual 84, 3) := by decide +kernel
theorem dX3_dig_10 : decode cX3_dig 10 = .ok (.ifCond .eq 11, 3) := by decide +kernel
theorem dX3_dig_13 : decode cX3_dig 13 = .ok (.aload_n 0, 1) := by decide +kernel
theorem dX3_dig_14 : decode cX3_dig 14 = .ok (.iload_n 2, 1) := by decide +kernel
theorem dX3_dig_15 : decode cX3_dig 15 = .ok (.invokevirtual 84, 3) := by decide +kernel
theorem dX3_dig_18 : decode cX3_dig 18 = .ok (.ifCond .ne 9, 3) := by decide +kernel
theorem dX3_dig_21 : decode cX3_dig 21 = .ok (.aload_n 0, 1) := by decide +kernel
theorem dX3_dig_22 : decode cX3_dig 22 = .ok (.iconst 1, 1) := by decide +kernel
theorem dX3_dig_23 : decode cX3_dig 23 = .ok (.invokevirtual 57, 3) := by decide +kernel
theorem dX3_dig_26 : decode cX3_dig 26 = .ok (.ireturn, 1) := by decide +kernel
theorem dX3_dig_27 : decode cX3_dig 27 = .ok (.aload_n 0, 1) := by decide +kernel
theorem dX3_dig_28 : decode cX3_dig 28 = .ok (.iload_n 1, 1) := by decide +kernel
theorem dX3_dig_29 : decode cX3_dig 29 = .ok (.iload_n 2, 1) := by decide +kernel
theorem dX3_dig_30 : decode cX3_dig 30 = .ok (.invokevirtual 102, 3) := by decide +kernel
theorem dX3_dig_33 : decode cX3_dig 33 = .ok (.ifCond .ne 9, 3) := by decide +kernel
theorem dX3_dig_36 : decode cX3_dig 36 = .ok (.aload_n 0, 1) := by decide +kernel
theorem dX3_dig_37 : decode cX3_dig 37 = .ok (.iconst 2, 1) := by decide +kernel
theorem dX3_dig_38 : decode cX3_dig 38 = .ok (.invokevirtual 57, 3) := by decide +kernel
theorem dX3_dig_41 : decode cX3_dig 41 = .ok (.ireturn, 1) := by decide +kernel
theorem dX3_dig_42 : decode cX3_dig 42 = .ok (.aload_n 0, 1) := by decide +kernel
theorem dX3_dig_43 : decode cX3_dig 43 = .ok (.iload_n 1, 1) := by decide +kernel
theorem dX3_dig_44 : decode cX3_dig 44 = .ok (.iload_n 2, 1) := by decide +kernel
theorem dX3_dig_45 : decode cX3_dig 45 = .ok (.invokevirtual 105, 3) := by decide +kernel
theorem dX3_dig_48 : decode cX3_dig 48 = .ok (.aload_n 0, 1) := by decide +kernel
theorem dX3_dig_49 : decode cX3_dig 49 = .ok (.invokevirtual 49, 3) := by decide +kernel
theorem dX3_dig_52 : decode cX3_dig 52 = .ok (.ireturn, 1) := by decide +kernel
set_option maxRecDepth 20000 in
theorem ggX3_far_X3_beside : GoodIn wsX3_far wsX3_beside := goodIn_r _ [10, 11, 12, 9, 13, 14, 15, 16] (by decide +kernel) (by decide +kernel)
set_option maxRecDepth 20000 in
theorem gX3_far_X3_beside : GoodIn wsX3_far (va_wsS RX3 80 yX3_beside wsX3_beside) := goodIn_app (goodIn_of _ (by decide +kernel)) ggX3_far_X3_beside
theorem dX3_far_0 : decode cX3_far 0 = .ok (.iconst (-1), 1) := by decide +kernel
theorem dX3_far_1 : decode cX3_far 1 = .ok (.istore_n 2, 1) := by decide +kernel
theorem dX3_far_2 : decode cX3_far 2 = .ok (.iconst 0, 1) := by decide +kernel
theorem dX3_far_3 : decode cX3_far 3 = .ok (.istore_n 3, 1) := by decide +kernel
theorem dX3_far_4 : decode cX3_far 4 = .ok (.iload_n 3, 1) := by decide +kernel
theorem dX3_far_5 : decode cX3_far 5 = .ok (.iconst 4, 1) := by decide +kernel
theorem dX3_far_6 : decode cX3_far 6 = .ok (.if_icmp .ge 52, 3) := by decide +kernel
theorem dX3_far_9 : decode cX3_far 9 = .ok (.aload_n 0, 1) := by decide +kernel
theorem dX3_far_10 : decode cX3_far 10 = .ok (.getfield 23, 3) := by decide +kernel
theorem dX3_far_13 : decode cX3_far 13 = .ok (.iload_n 1, 1) := by decide +kernel
theorem dX3_far_14 : decode cX3_far 14 = .ok (.iaload, 1) := by decide +kernel
theorem dX3_far_15 : decode cX3_far 15 = .ok (.iload_n 3, 1) := by decide +kernel
theorem dX3_far_16 : decode cX3_far 16 = .ok (.invokestatic 80, 3) := by decide +kernel
theorem dX3_far_19 : decode cX3_far 19 = .ok (.istore 4, 2) := by decide +kernel
theorem dX3_far_21 : decode cX3_far 21 = .ok (.iload 4, 2) := by decide +kernel
theorem dX3_far_23 : decode cX3_far 23 = .ok (.iconst (-1), 1) := by decide +kernel
theorem dX3_far_24 : decode cX3_far 24 = .ok (.if_icmp .eq 28, 3) := by decide +kernel
theorem dX3_far_27 : decode cX3_far 27 = .ok (.aload_n 0, 1) := by decide +kernel
theorem dX3_far_28 : decode cX3_far 28 = .ok (.getfield 26, 3) := by decide +kernel
theorem dX3_far_31 : decode cX3_far 31 = .ok (.iload 4, 2) := by decide +kernel
theorem dX3_far_33 : decode cX3_far 33 = .ok (.iaload, 1) := by decide +kernel
theorem dX3_far_34 : decode cX3_far 34 = .ok (.iload_n 1, 1) := by decide +kernel
theorem dX3_far_35 : decode cX3_far 35 = .ok (.iconst 3, 1) := by decide +kernel
theorem dX3_far_36 : decode cX3_far 36 = .ok (.iadd, 1) := by decide +kernel
theorem dX3_far_37 : decode cX3_far 37 = .ok (.if_icmp .lt 15, 3) := by decide +kernel
theorem dX3_far_40 : decode cX3_far 40 = .ok (.iload_n 2, 1) := by decide +kernel
theorem dX3_far_41 : decode cX3_far 41 = .ok (.aload_n 0, 1) := by decide +kernel
theorem dX3_far_42 : decode cX3_far 42 = .ok (.getfield 26, 3) := by decide +kernel
theorem dX3_far_45 : decode cX3_far 45 = .ok (.iload 4, 2) := by decide +kernel
theorem dX3_far_47 : decode cX3_far 47 = .ok (.iaload, 1) := by decide +kernel
theorem dX3_far_48 : decode cX3_far 48 = .ok (.invokestatic 108, 3) := by decide +kernel
theorem dX3_far_51 : decode cX3_far 51 = .ok (.istore_n 2, 1) := by decide +kernel
theorem dX3_far_52 : decode cX3_far 52 = .ok (.iinc 3 1, 3) := by decide +kernel
theorem dX3_far_55 : decode cX3_far 55 = .ok (.goto (-51), 3) := by decide +kernel
theorem dX3_far_58 : decode cX3_far 58 = .ok (.iload_n 2, 1) := by decide +kernel
theorem dX3_far_59 : decode cX3_far 59 = .ok (.ireturn, 1) := by decide +kernel
set_option maxRecDepth 20000 in
theorem ggX3_first_X3_length : GoodIn wsX3_first wsX3_length := goodIn_r _ [5, 6, 26, 27, 28, 29, 30, 31, 32, 33, 34, 35, 36] (by decide +kernel) (by decide +kernel)
set_option maxRecDepth 20000 in
theorem gX3_first_X3_length : GoodIn wsX3_first (wsV RX3 49 RX3 yX3_length wsX3_length) := goodIn_app (goodIn_of _ (by decide +kernel)) ggX3_first_X3_length
set_option maxRecDepth 20000 in
theorem ggX3_first_X3_far : GoodIn wsX3_first wsX3_far := goodIn_r _ [10, 11, 12, 13, 14, 15, 16, 17, 18, 4, 19, 20, 21, 22, 23, 24, 25, 26, 27, 28, 29, 30, 31, 32, 33, 34, 35, 36] (by decide +kernel) (by decide +kernel)
set_option maxRecDepth 20000 in
theorem gX3_first_X3_far : GoodIn wsX3_first (wsV RX3 111 RX3 yX3_far wsX3_far) := goodIn_app (goodIn_of _ (by decide +kernel)) ggX3_first_X3_far
theorem dX3_first_0 : decode cX3_first 0 = .ok (.iconst (-1), 1) := by decide +kernel
theorem dX3_first_1 : decode cX3_first 1 = .ok (.istore_n 1, 1) := by decide +kernel
theorem dX3_first_2 : decode cX3_first 2 = .ok (.iconst 0, 1) := by decide +kernel
theorem dX3_first_3 : decode cX3_first 3 = .ok (.istore_n 2, 1) := by decide +kernel
theorem dX3_first_4 : decode cX3_first 4 = .ok (.iload_n 2, 1) := by decide +kernel
theorem dX3_first_5 : decode cX3_first 5 = .ok (.aload_n 0, 1) := by decide +kernel
theorem dX3_first_6 : decode cX3_first 6 = .ok (.invokevirtual 49, 3) := by decide +kernel
theorem dX3_first_9 : decode cX3_first 9 = .ok (.if_icmp .ge 42, 3) := by decide +kernel
theorem dX3_first_12 : decode cX3_first 12 = .ok (.aload_n 0, 1) := by decide +kernel
theorem dX3_first_13 : decode cX3_first 13 = .ok (.iload_n 2, 1) := by decide +kernel
theorem dX3_first_14 : decode cX3_first 14 = .ok (.invokevirtual 111, 3) := by decide +kernel
theorem dX3_first_17 : decode cX3_first 17 = .ok (.iconst (-1), 1) := by decide +kernel
theorem dX3_first_18 : decode cX3_first 18 = .ok (.if_icmp .eq 27, 3) := by decide +kernel
theorem dX3_first_21 : decode cX3_first 21 = .ok (.iload_n 1, 1) := by decide +kernel
theorem dX3_first_22 : decode cX3_first 22 = .ok (.iconst (-1), 1) := by decide +kernel
theorem dX3_first_23 : decode cX3_first 23 = .ok (.if_icmp .eq 20, 3) := by decide +kernel
theorem dX3_first_26 : decode cX3_first 26 = .ok (.aload_n 0, 1) := by decide +kernel
theorem dX3_first_27 : decode cX3_first 27 = .ok (.iload_n 2, 1) := by decide +kernel
theorem dX3_first_28 : decode cX3_first 28 = .ok (.invokevirtual 111, 3) := by decide +kernel
theorem dX3_first_31 : decode cX3_first 31 = .ok (.iload_n 2, 1) := by decide +kernel
theorem dX3_first_32 : decode cX3_first 32 = .ok (.isub, 1) := by decide +kernel
theorem dX3_first_33 : decode cX3_first 33 = .ok (.aload_n 0, 1) := by decide +kernel
theorem dX3_first_34 : decode cX3_first 34 = .ok (.iload_n 1, 1) := by decide +kernel
theorem dX3_first_35 : decode cX3_first 35 = .ok (.invokevirtual 111, 3) := by decide +kernel
theorem dX3_first_38 : decode cX3_first 38 = .ok (.iload_n 1, 1) := by decide +kernel
theorem dX3_first_39 : decode cX3_first 39 = .ok (.isub, 1) := by decide +kernel
theorem dX3_first_40 : decode cX3_first 40 = .ok (.if_icmp .le 5, 3) := by decide +kernel
theorem dX3_first_43 : decode cX3_first 43 = .ok (.iload_n 2, 1) := by decide +kernel
theorem dX3_first_44 : decode cX3_first 44 = .ok (.istore_n 1, 1) := by decide +kernel
theorem dX3_first_45 : decode cX3_first 45 = .ok (.iinc 2 1, 3) := by decide +kernel
theorem dX3_first_48 : decode cX3_first 48 = .ok (.goto (-44), 3) := by decide +kernel
theorem dX3_first_51 : decode cX3_first 51 = .ok (.iload_n 1, 1) := by decide +kernel
theorem dX3_first_52 : decode cX3_first 52 = .ok (.ireturn, 1) := by decide +kernel
set_option maxRecDepth 20000 in
theorem ggX3_flood_X3_first : GoodIn wsX3_flood wsX3_first := goodIn_r _ [5, 6, 7, 8, 4, 9, 10, 11, 12, 13, 14, 15, 16, 17, 18, 19, 20, 21, 22, 23, 24, 25, 26, 27, 28, 29, 39, 40, 41, 42, 43, 44, 45, 46, 47, 48, 49] (by decide +kernel) (by decide +kernel)
set_option maxRecDepth 20000 in
theorem gX3_flood_X3_first : GoodIn wsX3_flood (wsV RX3 114 RX3 yX3_first wsX3_first) := goodIn_app (goodIn_of _ (by decide +kernel)) ggX3_flood_X3_first
set_option maxRecDepth 20000 in
theorem ggX3_flood_X3_far : GoodIn wsX3_flood wsX3_far := goodIn_r _ [14, 15, 16, 17, 18, 19, 20, 21, 22, 4, 23, 24, 25, 26, 27, 28, 29, 39, 40, 41, 42, 43, 44, 45, 46, 47, 48, 49] (by decide +kernel) (by decide +kernel)
set_option maxRecDepth 20000 in
theorem gX3_flood_X3_far : GoodIn wsX3_flood (wsV RX3 111 RX3 yX3_far wsX3_far) := goodIn_app (goodIn_of _ (by decide +kernel)) ggX3_flood_X3_far
set_option maxRecDepth 20000 in
theorem ggX3_flood_X3_breakThrough : GoodIn wsX3_flood wsX3_breakThrough := goodIn_r _ [33, 34, 15, 10, 6, 7, 8, 4, 9, 35, 36, 37, 38, 16, 39, 40, 41, 42, 43, 44, 45, 46, 47, 48, 49] (by decide +kernel) (by decide +kernel)
set_option maxRecDepth 20000 in
theorem gX3_flood_X3_breakThrough : GoodIn wsX3_flood (wsV RX3 105 RX3 yX3_breakThrough wsX3_breakThrough) := goodIn_app (goodIn_of _ (by decide +kernel)) ggX3_flood_X3_breakThrough
theorem dX3_flood_0 : decode cX3_flood 0 = .ok (.aload_n 0, 1) := by decide +kernel
theorem dX3_flood_1 : decode cX3_flood 1 = .ok (.invokevirtual 114, 3) := by decide +kernel
theorem dX3_flood_4 : decode cX3_flood 4 = .ok (.istore_n 1, 1) := by decide +kernel
theorem dX3_flood_5 : decode cX3_flood 5 = .ok (.iload_n 1, 1) := by decide +kernel
theorem dX3_flood_6 : decode cX3_flood 6 = .ok (.iconst (-1), 1) := by decide +kernel
theorem dX3_flood_7 : decode cX3_flood 7 = .ok (.if_icmp .eq 21, 3) := by decide +kernel
theorem dX3_flood_10 : decode cX3_flood 10 = .ok (.aload_n 0, 1) := by decide +kernel
theorem dX3_flood_11 : decode cX3_flood 11 = .ok (.iload_n 1, 1) := by decide +kernel
theorem dX3_flood_12 : decode cX3_flood 12 = .ok (.aload_n 0, 1) := by decide +kernel
theorem dX3_flood_13 : decode cX3_flood 13 = .ok (.iload_n 1, 1) := by decide +kernel
theorem dX3_flood_14 : decode cX3_flood 14 = .ok (.invokevirtual 111, 3) := by decide +kernel
theorem dX3_flood_17 : decode cX3_flood 17 = .ok (.invokevirtual 105, 3) := by decide +kernel
theorem dX3_flood_20 : decode cX3_flood 20 = .ok (.aload_n 0, 1) := by decide +kernel
theorem dX3_flood_21 : decode cX3_flood 21 = .ok (.invokevirtual 114, 3) := by decide +kernel
theorem dX3_flood_24 : decode cX3_flood 24 = .ok (.istore_n 1, 1) := by decide +kernel
theorem dX3_flood_25 : decode cX3_flood 25 = .ok (.goto (-20), 3) := by decide +kernel
theorem dX3_flood_28 : decode cX3_flood 28 = .ok (.return_, 1) := by decide +kernel
set_option maxRecDepth 20000 in
theorem ggX3_necks_X3_length : GoodIn wsX3_necks wsX3_length := goodIn_r _ [5, 6, 16, 17, 18, 19, 20, 21, 22, 23, 24, 25, 26] (by decide +kernel) (by decide +kernel)
set_option maxRecDepth 20000 in
theorem gX3_necks_X3_length : GoodIn wsX3_necks (wsV RX3 49 RX3 yX3_length wsX3_length) := goodIn_app (goodIn_of _ (by decide +kernel)) ggX3_necks_X3_length
set_option maxRecDepth 20000 in
theorem ggX3_necks_X3_isNeck : GoodIn wsX3_necks wsX3_isNeck := goodIn_r _ [10, 11, 12, 13, 14, 15, 16, 17, 18, 19, 20, 21, 22, 23, 24, 25, 26] (by decide +kernel) (by decide +kernel)
set_option maxRecDepth 20000 in
theorem gX3_necks_X3_isNeck : GoodIn wsX3_necks (wsV RX3 102 RX3 yX3_isNeck wsX3_isNeck) := goodIn_app (goodIn_of _ (by decide +kernel)) ggX3_necks_X3_isNeck
theorem dX3_necks_0 : decode cX3_necks 0 = .ok (.iconst 0, 1) := by decide +kernel
theorem dX3_necks_1 : decode cX3_necks 1 = .ok (.istore_n 1, 1) := by decide +kernel
theorem dX3_necks_2 : decode cX3_necks 2 = .ok (.iconst 0, 1) := by decide +kernel
theorem dX3_necks_3 : decode cX3_necks 3 = .ok (.istore_n 2, 1) := by decide +kernel
theorem dX3_necks_4 : decode cX3_necks 4 = .ok (.iload_n 2, 1) := by decide +kernel
theorem dX3_necks_5 : decode cX3_necks 5 = .ok (.aload_n 0, 1) := by decide +kernel
theorem dX3_necks_6 : decode cX3_necks 6 = .ok (.invokevirtual 49, 3) := by decide +kernel
theorem dX3_necks_9 : decode cX3_necks 9 = .ok (.if_icmp .ge 44, 3) := by decide +kernel
theorem dX3_necks_12 : decode cX3_necks 12 = .ok (.iload_n 2, 1) := by decide +kernel
theorem dX3_necks_13 : decode cX3_necks 13 = .ok (.iconst 3, 1) := by decide +kernel
theorem dX3_necks_14 : decode cX3_necks 14 = .ok (.iadd, 1) := by decide +kernel
theorem dX3_necks_15 : decode cX3_necks 15 = .ok (.istore_n 3, 1) := by decide +kernel
theorem dX3_necks_16 : decode cX3_necks 16 = .ok (.iload_n 3, 1) := by decide +kernel
theorem dX3_necks_17 : decode cX3_necks 17 = .ok (.aload_n 0, 1) := by decide +kernel
theorem dX3_necks_18 : decode cX3_necks 18 = .ok (.invokevirtual 49, 3) := by decide +kernel
theorem dX3_necks_21 : decode cX3_necks 21 = .ok (.if_icmp .ge 26, 3) := by decide +kernel
theorem dX3_necks_24 : decode cX3_necks 24 = .ok (.iload_n 1, 1) := by decide +kernel
theorem dX3_necks_25 : decode cX3_necks 25 = .ok (.aload_n 0, 1) := by decide +kernel
theorem dX3_necks_26 : decode cX3_necks 26 = .ok (.iload_n 2, 1) := by decide +kernel
theorem dX3_necks_27 : decode cX3_necks 27 = .ok (.iload_n 3, 1) := by decide +kernel
theorem dX3_necks_28 : decode cX3_necks 28 = .ok (.invokevirtual 102, 3) := by decide +kernel
theorem dX3_necks_31 : decode cX3_necks 31 = .ok (.ifCond .eq 7, 3) := by decide +kernel
theorem dX3_necks_34 : decode cX3_necks 34 = .ok (.iconst 1, 1) := by decide +kernel
theorem dX3_necks_35 : decode cX3_necks 35 = .ok (.goto 4, 3) := by decide +kernel
theorem dX3_necks_38 : decode cX3_necks 38 = .ok (.iconst 0, 1) := by decide +kernel
theorem dX3_necks_39 : decode cX3_necks 39 = .ok (.iadd, 1) := by decide +kernel
theorem dX3_necks_40 : decode cX3_necks 40 = .ok (.istore_n 1, 1) := by decide +kernel
theorem dX3_necks_41 : decode cX3_necks 41 = .ok (.iinc 3 1, 3) := by decide +kernel
theorem dX3_necks_44 : decode cX3_necks 44 = .ok (.goto (-28), 3) := by decide +kernel
theorem dX3_necks_47 : decode cX3_necks 47 = .ok (.iinc 2 1, 3) := by decide +kernel
theorem dX3_necks_50 : decode cX3_necks 50 = .ok (.goto (-46), 3) := by decide +kernel
theorem dX3_necks_53 : decode cX3_necks 53 = .ok (.iload_n 1, 1) := by decide +kernel
theorem dX3_necks_54 : decode cX3_necks 54 = .ok (.ireturn, 1) := by decide +kernel
set_option maxRecDepth 20000 in
theorem ggX3_neck_X3_isIn : GoodIn wsX3_neck wsX3_isIn := goodIn_r _ [5] (by decide +kernel) (by decide +kernel)
set_option maxRecDepth 20000 in
theorem gX3_neck_X3_isIn : GoodIn wsX3_neck (va_wsS RX3 45 yX3_isIn wsX3_isIn) := goodIn_app (goodIn_of _ (by decide +kernel)) ggX3_neck_X3_isIn
set_option maxRecDepth 20000 in
theorem ggX3_neck_X3_fail : GoodIn wsX3_neck wsX3_fail := goodIn_r _ [9, 1, 78, 79, 80, 81, 82, 83, 84, 85, 86, 87, 88] (by decide +kernel) (by decide +kernel)
set_option maxRecDepth 20000 in
theorem gX3_neck_X3_fail : GoodIn wsX3_neck (wsV RX3 57 RX3 yX3_fail wsX3_fail) := goodIn_app (goodIn_of _ (by decide +kernel)) ggX3_neck_X3_fail
set_option maxRecDepth 20000 in
theorem ggX3_neck_X3_first : GoodIn wsX3_neck wsX3_first := goodIn_r _ [13, 14, 15, 16, 4, 17, 18, 19, 20, 21, 22, 23, 24, 25, 26, 27, 28, 29, 30, 31, 32, 33, 34, 2, 3, 5, 78, 79, 80, 81, 82, 83, 84, 85, 86, 87, 88] (by decide +kernel) (by decide +kernel)
set_option maxRecDepth 20000 in
theorem gX3_neck_X3_first : GoodIn wsX3_neck (wsV RX3 114 RX3 yX3_first wsX3_first) := goodIn_app (goodIn_of _ (by decide +kernel)) ggX3_neck_X3_first
set_option maxRecDepth 20000 in
theorem ggX3_neck_X3_necks : GoodIn wsX3_neck wsX3_necks := goodIn_r _ [38, 14, 15, 16, 4, 17, 18, 39, 40, 41, 42, 23, 43, 44, 27, 45, 78, 79, 80, 81, 82, 83, 84, 85, 86, 87, 88] (by decide +kernel) (by decide +kernel)
set_option maxRecDepth 20000 in
theorem gX3_neck_X3_necks : GoodIn wsX3_neck (wsV RX3 117 RX3 yX3_necks wsX3_necks) := goodIn_app (goodIn_of _ (by decide +kernel)) ggX3_neck_X3_necks
set_option maxRecDepth 20000 in
theorem ggX3_neck_X3_far : GoodIn wsX3_neck wsX3_far := goodIn_r _ [22, 23, 24, 25, 26, 27, 28, 29, 30, 4, 31, 32, 33, 34, 2, 3, 5, 78, 79, 80, 81, 82, 83, 84, 85, 86, 87, 88] (by decide +kernel) (by decide +kernel)
set_option maxRecDepth 20000 in
theorem gX3_neck_X3_far : GoodIn wsX3_neck (wsV RX3 111 RX3 yX3_far wsX3_far) := goodIn_app (goodIn_of _ (by decide +kernel)) ggX3_neck_X3_far
set_option maxRecDepth 20000 in
theorem ggX3_neck_X3_kept : GoodIn wsX3_neck wsX3_kept := goodIn_r _ [49, 50, 23, 51, 52, 53, 54, 55, 56, 57, 18, 78, 79, 80, 81, 82, 83, 84, 85, 86, 87, 88] (by decide +kernel) (by decide +kernel)
set_option maxRecDepth 20000 in
theorem gX3_neck_X3_kept : GoodIn wsX3_neck (wsV RX3 120 RX3 yX3_kept wsX3_kept) := goodIn_app (goodIn_of _ (by decide +kernel)) ggX3_neck_X3_kept
set_option maxRecDepth 20000 in
theorem ggX3_neck_X3_length : GoodIn wsX3_neck wsX3_length := goodIn_r _ [17, 18, 78, 79, 80, 81, 82, 83, 84, 85, 86, 87, 88] (by decide +kernel) (by decide +kernel)
set_option maxRecDepth 20000 in
theorem gX3_neck_X3_length : GoodIn wsX3_neck (wsV RX3 49 RX3 yX3_length wsX3_length) := goodIn_app (goodIn_of _ (by decide +kernel)) ggX3_neck_X3_length
set_option maxRecDepth 20000 in
theorem ggX3_neck_X3_flood : GoodIn wsX3_neck wsX3_flood := goodIn_r _ [61, 10, 11, 12, 4, 13, 14, 15, 16, 17, 18, 19, 20, 21, 22, 23, 24, 25, 26, 27, 28, 29, 30, 31, 32, 33, 34, 2, 3, 5, 62, 63, 64, 65, 57, 66, 67, 68, 69, 78, 79, 80, 81, 82, 83, 84, 85, 86, 87, 88] (by decide +kernel) (by decide +kernel)
set_option maxRecDepth 20000 in
theorem gX3_neck_X3_flood : GoodIn wsX3_neck (wsV RX3 124 RX3 yX3_flood wsX3_flood) := goodIn_app (goodIn_of _ (by decide +kernel)) ggX3_neck_X3_flood
set_option maxRecDepth 20000 in
theorem ggX3_neck_X3_bringBack : GoodIn wsX3_neck wsX3_bringBack := goodIn_r _ [73, 23, 74, 75, 76, 77, 56, 57, 18, 66, 67, 68, 4, 69, 24, 14, 15, 16, 17, 78, 79, 80, 81, 82, 83, 84, 85, 86, 87, 88] (by decide +kernel) (by decide +kernel)
set_option maxRecDepth 20000 in
theorem gX3_neck_X3_bringBack : GoodIn wsX3_neck (wsV RX3 127 RX3 yX3_bringBack wsX3_bringBack) := goodIn_app (goodIn_of _ (by decide +kernel)) ggX3_neck_X3_bringBack
theorem dX3_neck_0 : decode cX3_neck 0 = .ok (.aload_n 0, 1) := by decide +kernel
theorem dX3_neck_1 : decode cX3_neck 1 = .ok (.iconst 0, 1) := by decide +kernel
theorem dX3_neck_2 : decode cX3_neck 2 = .ok (.putfield 41, 3) := by decide +kernel
theorem dX3_neck_5 : decode cX3_neck 5 = .ok (.iload_n 1, 1) := by decide +kernel
theorem dX3_neck_6 : decode cX3_neck 6 = .ok (.iconst 0, 1) := by decide +kernel
theorem dX3_neck_7 : decode cX3_neck 7 = .ok (.iconst 3, 1) := by decide +kernel
theorem dX3_neck_8 : decode cX3_neck 8 = .ok (.invokestatic 45, 3) := by decide +kernel
theorem dX3_neck_11 : decode cX3_neck 11 = .ok (.ifCond .ne 9, 3) := by decide +kernel
theorem dX3_neck_14 : decode cX3_neck 14 = .ok (.aload_n 0, 1) := by decide +kernel
theorem dX3_neck_15 : decode cX3_neck 15 = .ok (.iconst 1, 1) := by decide +kernel
theorem dX3_neck_16 : decode cX3_neck 16 = .ok (.invokevirtual 57, 3) := by decide +kernel
theorem dX3_neck_19 : decode cX3_neck 19 = .ok (.ireturn, 1) := by decide +kernel
theorem dX3_neck_20 : decode cX3_neck 20 = .ok (.aload_n 0, 1) := by decide +kernel
theorem dX3_neck_21 : decode cX3_neck 21 = .ok (.invokevirtual 114, 3) := by decide +kernel
theorem dX3_neck_24 : decode cX3_neck 24 = .ok (.istore_n 2, 1) := by decide +kernel
theorem dX3_neck_25 : decode cX3_neck 25 = .ok (.iload_n 1, 1) := by decide +kernel
theorem dX3_neck_26 : decode cX3_neck 26 = .ok (.ifCond .ne 8, 3) := by decide +kernel
theorem dX3_neck_29 : decode cX3_neck 29 = .ok (.aload_n 0, 1) := by decide +kernel
theorem dX3_neck_30 : decode cX3_neck 30 = .ok (.invokevirtual 117, 3) := by decide +kernel
theorem dX3_neck_33 : decode cX3_neck 33 = .ok (.ireturn, 1) := by decide +kernel
theorem dX3_neck_34 : decode cX3_neck 34 = .ok (.iload_n 1, 1) := by decide +kernel
theorem dX3_neck_35 : decode cX3_neck 35 = .ok (.iconst 3, 1) := by decide +kernel
theorem dX3_neck_36 : decode cX3_neck 36 = .ok (.if_icmp .ge 27, 3) := by decide +kernel
theorem dX3_neck_39 : decode cX3_neck 39 = .ok (.iload_n 2, 1) := by decide +kernel
theorem dX3_neck_40 : decode cX3_neck 40 = .ok (.iconst (-1), 1) := by decide +kernel
theorem dX3_neck_41 : decode cX3_neck 41 = .ok (.if_icmp .ne 7, 3) := by decide +kernel
theorem dX3_neck_44 : decode cX3_neck 44 = .ok (.iconst (-1), 1) := by decide +kernel
theorem dX3_neck_45 : decode cX3_neck 45 = .ok (.goto 17, 3) := by decide +kernel
theorem dX3_neck_48 : decode cX3_neck 48 = .ok (.iload_n 1, 1) := by decide +kernel
theorem dX3_neck_49 : decode cX3_neck 49 = .ok (.iconst 1, 1) := by decide +kernel
theorem dX3_neck_50 : decode cX3_neck 50 = .ok (.if_icmp .ne 7, 3) := by decide +kernel
theorem dX3_neck_53 : decode cX3_neck 53 = .ok (.iload_n 2, 1) := by decide +kernel
theorem dX3_neck_54 : decode cX3_neck 54 = .ok (.goto 8, 3) := by decide +kernel
theorem dX3_neck_57 : decode cX3_neck 57 = .ok (.aload_n 0, 1) := by decide +kernel
theorem dX3_neck_58 : decode cX3_neck 58 = .ok (.iload_n 2, 1) := by decide +kernel
theorem dX3_neck_59 : decode cX3_neck 59 = .ok (.invokevirtual 111, 3) := by decide +kernel
theorem dX3_neck_62 : decode cX3_neck 62 = .ok (.ireturn, 1) := by decide +kernel
theorem dX3_neck_63 : decode cX3_neck 63 = .ok (.aload_n 0, 1) := by decide +kernel
theorem dX3_neck_64 : decode cX3_neck 64 = .ok (.invokevirtual 120, 3) := by decide +kernel
theorem dX3_neck_67 : decode cX3_neck 67 = .ok (.astore_n 3, 1) := by decide +kernel
theorem dX3_neck_68 : decode cX3_neck 68 = .ok (.aload_n 0, 1) := by decide +kernel
theorem dX3_neck_69 : decode cX3_neck 69 = .ok (.invokevirtual 49, 3) := by decide +kernel
theorem dX3_neck_72 : decode cX3_neck 72 = .ok (.istore 4, 2) := by decide +kernel
theorem dX3_neck_74 : decode cX3_neck 74 = .ok (.aload_n 0, 1) := by decide +kernel
theorem dX3_neck_75 : decode cX3_neck 75 = .ok (.invokevirtual 124, 3) := by decide +kernel
theorem dX3_neck_78 : decode cX3_neck 78 = .ok (.iload 4, 2) := by decide +kernel
theorem dX3_neck_80 : decode cX3_neck 80 = .ok (.aload_n 0, 1) := by decide +kernel
theorem dX3_neck_81 : decode cX3_neck 81 = .ok (.invokevirtual 49, 3) := by decide +kernel
theorem dX3_neck_84 : decode cX3_neck 84 = .ok (.isub, 1) := by decide +kernel
theorem dX3_neck_85 : decode cX3_neck 85 = .ok (.istore 5, 2) := by decide +kernel
theorem dX3_neck_87 : decode cX3_neck 87 = .ok (.aload_n 0, 1) := by decide +kernel
theorem dX3_neck_88 : decode cX3_neck 88 = .ok (.aload_n 3, 1) := by decide +kernel
theorem dX3_neck_89 : decode cX3_neck 89 = .ok (.invokevirtual 127, 3) := by decide +kernel
theorem dX3_neck_92 : decode cX3_neck 92 = .ok (.iload 5, 2) := by decide +kernel
theorem dX3_neck_94 : decode cX3_neck 94 = .ok (.ireturn, 1) := by decide +kernel
set_option maxRecDepth 20000 in
theorem ggX3_addFarm_X3_isCell : GoodIn wsX3_addFarm wsX3_isCell := goodIn_r _ [12, 13, 14, 11, 15] (by decide +kernel) (by decide +kernel)
set_option maxRecDepth 20000 in
theorem gX3_addFarm_X3_isCell : GoodIn wsX3_addFarm (va_wsS RX3 53 yX3_isCell wsX3_isCell) := goodIn_app (goodIn_of _ (by decide +kernel)) ggX3_addFarm_X3_isCell
set_option maxRecDepth 20000 in
theorem ggX3_addFarm_X3_isIn : GoodIn wsX3_addFarm wsX3_isIn := goodIn_r _ [15] (by decide +kernel) (by decide +kernel)
set_option maxRecDepth 20000 in
theorem gX3_addFarm_X3_isIn : GoodIn wsX3_addFarm (va_wsS RX3 45 yX3_isIn wsX3_isIn) := goodIn_app (goodIn_of _ (by decide +kernel)) ggX3_addFarm_X3_isIn
set_option maxRecDepth 20000 in
theorem ggX3_addFarm_X3_fail : GoodIn wsX3_addFarm wsX3_fail := goodIn_r _ [19, 1, 20, 21, 22, 23, 24, 25, 26, 27, 28, 29, 30] (by decide +kernel) (by decide +kernel)
set_option maxRecDepth 20000 in
theorem gX3_addFarm_X3_fail : GoodIn wsX3_addFarm (wsV RX3 57 RX3 yX3_fail wsX3_fail) := goodIn_app (goodIn_of _ (by decide +kernel)) ggX3_addFarm_X3_fail
theorem dX3_addFarm_0 : decode cX3_addFarm 0 = .ok (.aload_n 0, 1) := by decide +kernel
theorem dX3_addFarm_1 : decode cX3_addFarm 1 = .ok (.iconst 0, 1) := by decide +kernel
theorem dX3_addFarm_2 : decode cX3_addFarm 2 = .ok (.putfield 41, 3) := by decide +kernel
theorem dX3_addFarm_5 : decode cX3_addFarm 5 = .ok (.iload_n 1, 1) := by decide +kernel
theorem dX3_addFarm_6 : decode cX3_addFarm 6 = .ok (.iload_n 2, 1) := by decide +kernel
theorem dX3_addFarm_7 : decode cX3_addFarm 7 = .ok (.invokestatic 53, 3) := by decide +kernel
theorem dX3_addFarm_10 : decode cX3_addFarm 10 = .ok (.ifCond .eq 28, 3) := by decide +kernel
theorem dX3_addFarm_13 : decode cX3_addFarm 13 = .ok (.iload_n 3, 1) := by decide +kernel
theorem dX3_addFarm_14 : decode cX3_addFarm 14 = .ok (.iconst 1, 1) := by decide +kernel
theorem dX3_addFarm_15 : decode cX3_addFarm 15 = .ok (.bipush 24, 2) := by decide +kernel
theorem dX3_addFarm_17 : decode cX3_addFarm 17 = .ok (.iload_n 1, 1) := by decide +kernel
theorem dX3_addFarm_18 : decode cX3_addFarm 18 = .ok (.isub, 1) := by decide +kernel
theorem dX3_addFarm_19 : decode cX3_addFarm 19 = .ok (.invokestatic 45, 3) := by decide +kernel
theorem dX3_addFarm_22 : decode cX3_addFarm 22 = .ok (.ifCond .eq 16, 3) := by decide +kernel
theorem dX3_addFarm_25 : decode cX3_addFarm 25 = .ok (.iload 4, 2) := by decide +kernel
theorem dX3_addFarm_27 : decode cX3_addFarm 27 = .ok (.iconst 1, 1) := by decide +kernel
theorem dX3_addFarm_28 : decode cX3_addFarm 28 = .ok (.bipush 16, 2) := by decide +kernel
theorem dX3_addFarm_30 : decode cX3_addFarm 30 = .ok (.iload_n 2, 1) := by decide +kernel
theorem dX3_addFarm_31 : decode cX3_addFarm 31 = .ok (.isub, 1) := by decide +kernel
theorem dX3_addFarm_32 : decode cX3_addFarm 32 = .ok (.invokestatic 45, 3) := by decide +kernel
theorem dX3_addFarm_35 : decode cX3_addFarm 35 = .ok (.ifCond .ne 9, 3) := by decide +kernel
theorem dX3_addFarm_38 : decode cX3_addFarm 38 = .ok (.aload_n 0, 1) := by decide +kernel
theorem dX3_addFarm_39 : decode cX3_addFarm 39 = .ok (.iconst 1, 1) := by decide +kernel
theorem dX3_addFarm_40 : decode cX3_addFarm 40 = .ok (.invokevirtual 57, 3) := by decide +kernel
theorem dX3_addFarm_43 : decode cX3_addFarm 43 = .ok (.ireturn, 1) := by decide +kernel
theorem dX3_addFarm_44 : decode cX3_addFarm 44 = .ok (.aload_n 0, 1) := by decide +kernel
theorem dX3_addFarm_45 : decode cX3_addFarm 45 = .ok (.getfield 64, 3) := by decide +kernel
theorem dX3_addFarm_48 : decode cX3_addFarm 48 = .ok (.bipush 6, 2) := by decide +kernel
theorem dX3_addFarm_50 : decode cX3_addFarm 50 = .ok (.if_icmp .ne 9, 3) := by decide +kernel
theorem dX3_addFarm_53 : decode cX3_addFarm 53 = .ok (.aload_n 0, 1) := by decide +kernel
theorem dX3_addFarm_54 : decode cX3_addFarm 54 = .ok (.iconst 2, 1) := by decide +kernel
theorem dX3_addFarm_55 : decode cX3_addFarm 55 = .ok (.invokevirtual 57, 3) := by decide +kernel
theorem dX3_addFarm_58 : decode cX3_addFarm 58 = .ok (.ireturn, 1) := by decide +kernel
theorem dX3_addFarm_59 : decode cX3_addFarm 59 = .ok (.iconst 4, 1) := by decide +kernel
theorem dX3_addFarm_60 : decode cX3_addFarm 60 = .ok (.newarray .int, 2) := by decide +kernel
theorem dX3_addFarm_62 : decode cX3_addFarm 62 = .ok (.dup, 1) := by decide +kernel
theorem dX3_addFarm_63 : decode cX3_addFarm 63 = .ok (.iconst 0, 1) := by decide +kernel
theorem dX3_addFarm_64 : decode cX3_addFarm 64 = .ok (.iload_n 1, 1) := by decide +kernel
theorem dX3_addFarm_65 : decode cX3_addFarm 65 = .ok (.iastore, 1) := by decide +kernel
theorem dX3_addFarm_66 : decode cX3_addFarm 66 = .ok (.dup, 1) := by decide +kernel
theorem dX3_addFarm_67 : decode cX3_addFarm 67 = .ok (.iconst 1, 1) := by decide +kernel
theorem dX3_addFarm_68 : decode cX3_addFarm 68 = .ok (.iload_n 2, 1) := by decide +kernel
theorem dX3_addFarm_69 : decode cX3_addFarm 69 = .ok (.iastore, 1) := by decide +kernel
theorem dX3_addFarm_70 : decode cX3_addFarm 70 = .ok (.dup, 1) := by decide +kernel
theorem dX3_addFarm_71 : decode cX3_addFarm 71 = .ok (.iconst 2, 1) := by decide +kernel
theorem dX3_addFarm_72 : decode cX3_addFarm 72 = .ok (.iload_n 3, 1) := by decide +kernel
theorem dX3_addFarm_73 : decode cX3_addFarm 73 = .ok (.iastore, 1) := by decide +kernel
theorem dX3_addFarm_74 : decode cX3_addFarm 74 = .ok (.dup, 1) := by decide +kernel
theorem dX3_addFarm_75 : decode cX3_addFarm 75 = .ok (.iconst 3, 1) := by decide +kernel
theorem dX3_addFarm_76 : decode cX3_addFarm 76 = .ok (.iload 4, 2) := by decide +kernel
theorem dX3_addFarm_78 : decode cX3_addFarm 78 = .ok (.iastore, 1) := by decide +kernel
theorem dX3_addFarm_79 : decode cX3_addFarm 79 = .ok (.astore 5, 2) := by decide +kernel
theorem dX3_addFarm_81 : decode cX3_addFarm 81 = .ok (.aload 5, 2) := by decide +kernel
theorem dX3_addFarm_83 : decode cX3_addFarm 83 = .ok (.iconst 0, 1) := by decide +kernel
theorem dX3_addFarm_84 : decode cX3_addFarm 84 = .ok (.aload_n 0, 1) := by decide +kernel
theorem dX3_addFarm_85 : decode cX3_addFarm 85 = .ok (.getfield 20, 3) := by decide +kernel
theorem dX3_addFarm_88 : decode cX3_addFarm 88 = .ok (.iconst 4, 1) := by decide +kernel
theorem dX3_addFarm_89 : decode cX3_addFarm 89 = .ok (.aload_n 0, 1) := by decide +kernel
theorem dX3_addFarm_90 : decode cX3_addFarm 90 = .ok (.getfield 64, 3) := by decide +kernel
theorem dX3_addFarm_93 : decode cX3_addFarm 93 = .ok (.imul, 1) := by decide +kernel
theorem dX3_addFarm_94 : decode cX3_addFarm 94 = .ok (.iconst 4, 1) := by decide +kernel
theorem dX3_addFarm_95 : decode cX3_addFarm 95 = .ok (.invokestatic 131, 3) := by decide +kernel
theorem dX3_addFarm_98 : decode cX3_addFarm 98 = .ok (.aload_n 0, 1) := by decide +kernel
theorem dX3_addFarm_99 : decode cX3_addFarm 99 = .ok (.dup, 1) := by decide +kernel
theorem dX3_addFarm_100 : decode cX3_addFarm 100 = .ok (.getfield 64, 3) := by decide +kernel
theorem dX3_addFarm_103 : decode cX3_addFarm 103 = .ok (.iconst 1, 1) := by decide +kernel
theorem dX3_addFarm_104 : decode cX3_addFarm 104 = .ok (.iadd, 1) := by decide +kernel
theorem dX3_addFarm_105 : decode cX3_addFarm 105 = .ok (.putfield 64, 3) := by decide +kernel
theorem dX3_addFarm_108 : decode cX3_addFarm 108 = .ok (.aload_n 0, 1) := by decide +kernel
theorem dX3_addFarm_109 : decode cX3_addFarm 109 = .ok (.getfield 64, 3) := by decide +kernel
theorem dX3_addFarm_112 : decode cX3_addFarm 112 = .ok (.iconst 1, 1) := by decide +kernel
theorem dX3_addFarm_113 : decode cX3_addFarm 113 = .ok (.isub, 1) := by decide +kernel
theorem dX3_addFarm_114 : decode cX3_addFarm 114 = .ok (.ireturn, 1) := by decide +kernel
set_option maxRecDepth 20000 in
theorem ggX3_farmTold_X3_isOf : GoodIn wsX3_farmTold wsX3_isOf := goodIn_r _ [8, 9, 10, 11, 7, 12, 13, 14, 15, 16, 17, 18, 19, 20, 21, 22, 23] (by decide +kernel) (by decide +kernel)
set_option maxRecDepth 20000 in
theorem gX3_farmTold_X3_isOf : GoodIn wsX3_farmTold (wsV RX3 67 RX3 yX3_isOf wsX3_isOf) := goodIn_app (goodIn_of _ (by decide +kernel)) ggX3_farmTold_X3_isOf
theorem dX3_farmTold_0 : decode cX3_farmTold 0 = .ok (.iconst 0, 1) := by decide +kernel
theorem dX3_farmTold_1 : decode cX3_farmTold 1 = .ok (.istore_n 3, 1) := by decide +kernel
theorem dX3_farmTold_2 : decode cX3_farmTold 2 = .ok (.iconst 0, 1) := by decide +kernel
theorem dX3_farmTold_3 : decode cX3_farmTold 3 = .ok (.istore 4, 2) := by decide +kernel
theorem dX3_farmTold_5 : decode cX3_farmTold 5 = .ok (.iload 4, 2) := by decide +kernel
theorem dX3_farmTold_7 : decode cX3_farmTold 7 = .ok (.sipush 384, 3) := by decide +kernel
theorem dX3_farmTold_10 : decode cX3_farmTold 10 = .ok (.if_icmp .ge 135, 3) := by decide +kernel
theorem dX3_farmTold_13 : decode cX3_farmTold 13 = .ok (.aload_n 0, 1) := by decide +kernel
theorem dX3_farmTold_14 : decode cX3_farmTold 14 = .ok (.iload_n 1, 1) := by decide +kernel
theorem dX3_farmTold_15 : decode cX3_farmTold 15 = .ok (.iload 4, 2) := by decide +kernel
theorem dX3_farmTold_17 : decode cX3_farmTold 17 = .ok (.invokevirtual 67, 3) := by decide +kernel
theorem dX3_farmTold_20 : decode cX3_farmTold 20 = .ok (.ifCond .ne 6, 3) := by decide +kernel
theorem dX3_farmTold_23 : decode cX3_farmTold 23 = .ok (.goto 116, 3) := by decide +kernel
theorem dX3_farmTold_26 : decode cX3_farmTold 26 = .ok (.aload_n 0, 1) := by decide +kernel
theorem dX3_farmTold_27 : decode cX3_farmTold 27 = .ok (.getfield 26, 3) := by decide +kernel
theorem dX3_farmTold_30 : decode cX3_farmTold 30 = .ok (.iload 4, 2) := by decide +kernel
theorem dX3_farmTold_32 : decode cX3_farmTold 32 = .ok (.iaload, 1) := by decide +kernel
theorem dX3_farmTold_33 : decode cX3_farmTold 33 = .ok (.iconst (-1), 1) := by decide +kernel
theorem dX3_farmTold_34 : decode cX3_farmTold 34 = .ok (.if_icmp .eq 7, 3) := by decide +kernel
theorem dX3_farmTold_37 : decode cX3_farmTold 37 = .ok (.iconst 1, 1) := by decide +kernel
theorem dX3_farmTold_38 : decode cX3_farmTold 38 = .ok (.goto 4, 3) := by decide +kernel
theorem dX3_farmTold_41 : decode cX3_farmTold 41 = .ok (.iconst 0, 1) := by decide +kernel
theorem dX3_farmTold_42 : decode cX3_farmTold 42 = .ok (.istore 5, 2) := by decide +kernel
theorem dX3_farmTold_44 : decode cX3_farmTold 44 = .ok (.aload_n 0, 1) := by decide +kernel
theorem dX3_farmTold_45 : decode cX3_farmTold 45 = .ok (.getfield 32, 3) := by decide +kernel
theorem dX3_farmTold_48 : decode cX3_farmTold 48 = .ok (.iload 4, 2) := by decide +kernel
theorem dX3_farmTold_50 : decode cX3_farmTold 50 = .ok (.iaload, 1) := by decide +kernel
theorem dX3_farmTold_51 : decode cX3_farmTold 51 = .ok (.ifCond .le 7, 3) := by decide +kernel
theorem dX3_farmTold_54 : decode cX3_farmTold 54 = .ok (.iconst 1, 1) := by decide +kernel
theorem dX3_farmTold_55 : decode cX3_farmTold 55 = .ok (.goto 4, 3) := by decide +kernel
theorem dX3_farmTold_58 : decode cX3_farmTold 58 = .ok (.iconst 0, 1) := by decide +kernel
theorem dX3_farmTold_59 : decode cX3_farmTold 59 = .ok (.istore 6, 2) := by decide +kernel
theorem dX3_farmTold_61 : decode cX3_farmTold 61 = .ok (.iload_n 2, 1) := by decide +kernel
theorem dX3_farmTold_62 : decode cX3_farmTold 62 = .ok (.ifCond .eq 57, 3) := by decide +kernel
theorem dX3_farmTold_65 : decode cX3_farmTold 65 = .ok (.iload_n 2, 1) := by decide +kernel
theorem dX3_farmTold_66 : decode cX3_farmTold 66 = .ok (.iconst 1, 1) := by decide +kernel
theorem dX3_farmTold_67 : decode cX3_farmTold 67 = .ok (.if_icmp .ne 16, 3) := by decide +kernel
theorem dX3_farmTold_70 : decode cX3_farmTold 70 = .ok (.iload 5, 2) := by decide +kernel
theorem dX3_farmTold_72 : decode cX3_farmTold 72 = .ok (.ifCond .ne 51, 3) := by decide +kernel
theorem dX3_farmTold_75 : decode cX3_farmTold 75 = .ok (.iload 6, 2) := by decide +kernel
theorem dX3_farmTold_77 : decode cX3_farmTold 77 = .ok (.ifCond .ne 46, 3) := by decide +kernel
theorem dX3_farmTold_80 : decode cX3_farmTold 80 = .ok (.goto 39, 3) := by decide +kernel
theorem dX3_farmTold_83 : decode cX3_farmTold 83 = .ok (.iload_n 2, 1) := by decide +kernel
theorem dX3_farmTold_84 : decode cX3_farmTold 84 = .ok (.iconst 2, 1) := by decide +kernel
theorem dX3_farmTold_85 : decode cX3_farmTold 85 = .ok (.if_icmp .ne 11, 3) := by decide +kernel
theorem dX3_farmTold_88 : decode cX3_farmTold 88 = .ok (.iload 5, 2) := by decide +kernel
theorem dX3_farmTold_90 : decode cX3_farmTold 90 = .ok (.ifCond .eq 33, 3) := by decide +kernel
theorem dX3_farmTold_93 : decode cX3_farmTold 93 = .ok (.goto 26, 3) := by decide +kernel
theorem dX3_farmTold_96 : decode cX3_farmTold 96 = .ok (.iload_n 2, 1) := by decide +kernel
theorem dX3_farmTold_97 : decode cX3_farmTold 97 = .ok (.iconst 3, 1) := by decide +kernel
theorem dX3_farmTold_98 : decode cX3_farmTold 98 = .ok (.if_icmp .ne 11, 3) := by decide +kernel
theorem dX3_farmTold_101 : decode cX3_farmTold 101 = .ok (.iload 6, 2) := by decide +kernel
theorem dX3_farmTold_103 : decode cX3_farmTold 103 = .ok (.ifCond .eq 20, 3) := by decide +kernel
theorem dX3_farmTold_106 : decode cX3_farmTold 106 = .ok (.goto 13, 3) := by decide +kernel
theorem dX3_farmTold_109 : decode cX3_farmTold 109 = .ok (.aload_n 0, 1) := by decide +kernel
theorem dX3_farmTold_110 : decode cX3_farmTold 110 = .ok (.getfield 13, 3) := by decide +kernel
theorem dX3_farmTold_113 : decode cX3_farmTold 113 = .ok (.iload 4, 2) := by decide +kernel
theorem dX3_farmTold_115 : decode cX3_farmTold 115 = .ok (.baload, 1) := by decide +kernel
theorem dX3_farmTold_116 : decode cX3_farmTold 116 = .ok (.ifCond .eq 7, 3) := by decide +kernel
theorem dX3_farmTold_119 : decode cX3_farmTold 119 = .ok (.iconst 1, 1) := by decide +kernel
theorem dX3_farmTold_120 : decode cX3_farmTold 120 = .ok (.goto 4, 3) := by decide +kernel
theorem dX3_farmTold_123 : decode cX3_farmTold 123 = .ok (.iconst 0, 1) := by decide +kernel
theorem dX3_farmTold_124 : decode cX3_farmTold 124 = .ok (.istore 7, 2) := by decide +kernel
theorem dX3_farmTold_126 : decode cX3_farmTold 126 = .ok (.iload_n 3, 1) := by decide +kernel
theorem dX3_farmTold_127 : decode cX3_farmTold 127 = .ok (.iload 7, 2) := by decide +kernel
theorem dX3_farmTold_129 : decode cX3_farmTold 129 = .ok (.ifCond .eq 7, 3) := by decide +kernel
theorem dX3_farmTold_132 : decode cX3_farmTold 132 = .ok (.iconst 1, 1) := by decide +kernel
theorem dX3_farmTold_133 : decode cX3_farmTold 133 = .ok (.goto 4, 3) := by decide +kernel
theorem dX3_farmTold_136 : decode cX3_farmTold 136 = .ok (.iconst 0, 1) := by decide +kernel
theorem dX3_farmTold_137 : decode cX3_farmTold 137 = .ok (.iadd, 1) := by decide +kernel
theorem dX3_farmTold_138 : decode cX3_farmTold 138 = .ok (.istore_n 3, 1) := by decide +kernel
theorem dX3_farmTold_139 : decode cX3_farmTold 139 = .ok (.iinc 4 1, 3) := by decide +kernel
theorem dX3_farmTold_142 : decode cX3_farmTold 142 = .ok (.goto (-137), 3) := by decide +kernel
theorem dX3_farmTold_145 : decode cX3_farmTold 145 = .ok (.iload_n 3, 1) := by decide +kernel
theorem dX3_farmTold_146 : decode cX3_farmTold 146 = .ok (.ireturn, 1) := by decide +kernel
set_option maxRecDepth 20000 in
theorem ggX3_isFarm_X3_isIn : GoodIn wsX3_isFarm wsX3_isIn := goodIn_r _ [5] (by decide +kernel) (by decide +kernel)
set_option maxRecDepth 20000 in
theorem gX3_isFarm_X3_isIn : GoodIn wsX3_isFarm (va_wsS RX3 45 yX3_isIn wsX3_isIn) := goodIn_app (goodIn_of _ (by decide +kernel)) ggX3_isFarm_X3_isIn
theorem dX3_isFarm_0 : decode cX3_isFarm 0 = .ok (.iload_n 1, 1) := by decide +kernel
theorem dX3_isFarm_1 : decode cX3_isFarm 1 = .ok (.iconst 0, 1) := by decide +kernel
theorem dX3_isFarm_2 : decode cX3_isFarm 2 = .ok (.aload_n 0, 1) := by decide +kernel
theorem dX3_isFarm_3 : decode cX3_isFarm 3 = .ok (.getfield 64, 3) := by decide +kernel
theorem dX3_isFarm_6 : decode cX3_isFarm 6 = .ok (.iconst 1, 1) := by decide +kernel
theorem dX3_isFarm_7 : decode cX3_isFarm 7 = .ok (.isub, 1) := by decide +kernel
theorem dX3_isFarm_8 : decode cX3_isFarm 8 = .ok (.invokestatic 45, 3) := by decide +kernel
theorem dX3_isFarm_11 : decode cX3_isFarm 11 = .ok (.ireturn, 1) := by decide +kernel
set_option maxRecDepth 20000 in
theorem ggX3_farm_X3_isFarm : GoodIn wsX3_farm wsX3_isFarm := goodIn_r _ [6, 7, 8, 9, 5, 10, 27, 28, 29, 30, 31, 32, 33, 34, 35, 36, 37] (by decide +kernel) (by decide +kernel)
set_option maxRecDepth 20000 in
theorem gX3_farm_X3_isFarm : GoodIn wsX3_farm (wsV RX3 137 RX3 yX3_isFarm wsX3_isFarm) := goodIn_app (goodIn_of _ (by decide +kernel)) ggX3_farm_X3_isFarm
set_option maxRecDepth 20000 in
theorem ggX3_farm_X3_isIn : GoodIn wsX3_farm wsX3_isIn := goodIn_r _ [10] (by decide +kernel) (by decide +kernel)
set_option maxRecDepth 20000 in
theorem gX3_farm_X3_isIn : GoodIn wsX3_farm (va_wsS RX3 45 yX3_isIn wsX3_isIn) := goodIn_app (goodIn_of _ (by decide +kernel)) ggX3_farm_X3_isIn
set_option maxRecDepth 20000 in
theorem ggX3_farm_X3_farmTold : GoodIn wsX3_farm wsX3_farmTold := goodIn_r _ [14, 15, 16, 17, 18, 19, 20, 5, 21, 22, 8, 9, 10, 27, 28, 29, 30, 31, 32, 33, 34, 35, 36, 37] (by decide +kernel) (by decide +kernel)
set_option maxRecDepth 20000 in
theorem gX3_farm_X3_farmTold : GoodIn wsX3_farm (wsV RX3 140 RX3 yX3_farmTold wsX3_farmTold) := goodIn_app (goodIn_of _ (by decide +kernel)) ggX3_farm_X3_farmTold
set_option maxRecDepth 20000 in
theorem ggX3_farm_X3_fail : GoodIn wsX3_farm wsX3_fail := goodIn_r _ [26, 1, 27, 28, 29, 30, 31, 32, 33, 34, 35, 36, 37] (by decide +kernel) (by decide +kernel)
set_option maxRecDepth 20000 in
theorem gX3_farm_X3_fail : GoodIn wsX3_farm (wsV RX3 57 RX3 yX3_fail wsX3_fail) := goodIn_app (goodIn_of _ (by decide +kernel)) ggX3_farm_X3_fail
theorem dX3_farm_0 : decode cX3_farm 0 = .ok (.aload_n 0, 1) := by decide +kernel
theorem dX3_farm_1 : decode cX3_farm 1 = .ok (.iconst 0, 1) := by decide +kernel
theorem dX3_farm_2 : decode cX3_farm 2 = .ok (.putfield 41, 3) := by decide +kernel
theorem dX3_farm_5 : decode cX3_farm 5 = .ok (.aload_n 0, 1) := by decide +kernel
theorem dX3_farm_6 : decode cX3_farm 6 = .ok (.iload_n 1, 1) := by decide +kernel
theorem dX3_farm_7 : decode cX3_farm 7 = .ok (.invokevirtual 137, 3) := by decide +kernel
theorem dX3_farm_10 : decode cX3_farm 10 = .ok (.ifCond .eq 21, 3) := by decide +kernel
theorem dX3_farm_13 : decode cX3_farm 13 = .ok (.iload_n 2, 1) := by decide +kernel
theorem dX3_farm_14 : decode cX3_farm 14 = .ok (.iconst 0, 1) := by decide +kernel
theorem dX3_farm_15 : decode cX3_farm 15 = .ok (.iconst 4, 1) := by decide +kernel
theorem dX3_farm_16 : decode cX3_farm 16 = .ok (.invokestatic 45, 3) := by decide +kernel
theorem dX3_farm_19 : decode cX3_farm 19 = .ok (.ifCond .eq 12, 3) := by decide +kernel
theorem dX3_farm_22 : decode cX3_farm 22 = .ok (.aload_n 0, 1) := by decide +kernel
theorem dX3_farm_23 : decode cX3_farm 23 = .ok (.iload_n 1, 1) := by decide +kernel
theorem dX3_farm_24 : decode cX3_farm 24 = .ok (.iload_n 2, 1) := by decide +kernel
theorem dX3_farm_25 : decode cX3_farm 25 = .ok (.invokevirtual 140, 3) := by decide +kernel
theorem dX3_farm_28 : decode cX3_farm 28 = .ok (.goto 8, 3) := by decide +kernel
theorem dX3_farm_31 : decode cX3_farm 31 = .ok (.aload_n 0, 1) := by decide +kernel
theorem dX3_farm_32 : decode cX3_farm 32 = .ok (.iconst 1, 1) := by decide +kernel
theorem dX3_farm_33 : decode cX3_farm 33 = .ok (.invokevirtual 57, 3) := by decide +kernel
theorem dX3_farm_36 : decode cX3_farm 36 = .ok (.ireturn, 1) := by decide +kernel
set_option maxRecDepth 20000 in
theorem ggX3_yearOn_X3_length : GoodIn wsX3_yearOn wsX3_length := goodIn_r _ [16, 2, 71, 72, 73, 74, 75, 76, 77, 78, 79, 80, 81] (by decide +kernel) (by decide +kernel)
set_option maxRecDepth 20000 in
theorem gX3_yearOn_X3_length : GoodIn wsX3_yearOn (wsV RX3 49 RX3 yX3_length wsX3_length) := goodIn_app (goodIn_of _ (by decide +kernel)) ggX3_yearOn_X3_length
set_option maxRecDepth 20000 in
theorem ggX3_yearOn_X3_bank : GoodIn wsX3_yearOn wsX3_bank := goodIn_r _ [20, 21, 22, 23, 24, 15, 25, 26, 27, 28, 29, 12, 13, 14, 16, 2, 30, 31, 32, 33, 34, 35, 36, 37, 38, 39, 40, 41, 42, 71, 72, 73, 74, 75, 76, 77, 78, 79, 80, 81] (by decide +kernel) (by decide +kernel)
set_option maxRecDepth 20000 in
theorem gX3_yearOn_X3_bank : GoodIn wsX3_yearOn (wsV RX3 87 RX3 yX3_bank wsX3_bank) := goodIn_app (goodIn_of _ (by decide +kernel)) ggX3_yearOn_X3_bank
set_option maxRecDepth 20000 in
theorem ggX3_yearOn_X3_side : GoodIn wsX3_yearOn wsX3_side := goodIn_r _ [25, 26, 27, 28, 15, 29, 12, 13, 14, 16, 2, 30, 31, 32, 33, 21, 71, 72, 73, 74, 75, 76, 77, 78, 79, 80, 81] (by decide +kernel) (by decide +kernel)
set_option maxRecDepth 20000 in
theorem gX3_yearOn_X3_side : GoodIn wsX3_yearOn (wsV RX3 77 RX3 yX3_side wsX3_side) := goodIn_app (goodIn_of _ (by decide +kernel)) ggX3_yearOn_X3_side
set_option maxRecDepth 20000 in
theorem ggX3_yearOn_X3_canBulge : GoodIn wsX3_yearOn wsX3_canBulge := goodIn_r _ [46, 21, 3, 4, 26, 27, 28, 15, 29, 12, 13, 14, 16, 2, 30, 31, 32, 33, 34, 35, 36, 37, 38, 39, 40, 41, 42, 71, 72, 73, 74, 75, 76, 77, 78, 79, 80, 81] (by decide +kernel) (by decide +kernel)
set_option maxRecDepth 20000 in
theorem gX3_yearOn_X3_canBulge : GoodIn wsX3_yearOn (wsV RX3 90 RX3 yX3_canBulge wsX3_canBulge) := goodIn_app (goodIn_of _ (by decide +kernel)) ggX3_yearOn_X3_canBulge
set_option maxRecDepth 20000 in
theorem ggX3_yearOn_X3_bulge : GoodIn wsX3_yearOn wsX3_bulge := goodIn_r _ [50, 21, 5, 7, 2, 34, 35, 15, 36, 37, 38, 39, 40, 41, 42, 12, 13, 14, 16, 51, 52, 53, 54, 3, 71, 72, 73, 74, 75, 76, 77, 78, 79, 80, 81] (by decide +kernel) (by decide +kernel)
set_option maxRecDepth 20000 in
theorem gX3_yearOn_X3_bulge : GoodIn wsX3_yearOn (wsV RX3 93 RX3 yX3_bulge wsX3_bulge) := goodIn_app (goodIn_of _ (by decide +kernel)) ggX3_yearOn_X3_bulge
set_option maxRecDepth 20000 in
theorem ggX3_yearOn_X3_flood : GoodIn wsX3_yearOn wsX3_flood := goodIn_r _ [58, 59, 60, 61, 15, 62, 12, 13, 14, 16, 2, 63, 64, 65, 66, 21, 3, 8, 9, 10, 11, 34, 35, 36, 37, 38, 39, 40, 41, 42, 67, 68, 69, 70, 7, 51, 52, 53, 54, 71, 72, 73, 74, 75, 76, 77, 78, 79, 80, 81] (by decide +kernel) (by decide +kernel)
set_option maxRecDepth 20000 in
theorem gX3_yearOn_X3_flood : GoodIn wsX3_yearOn (wsV RX3 124 RX3 yX3_flood wsX3_flood) := goodIn_app (goodIn_of _ (by decide +kernel)) ggX3_yearOn_X3_flood
theorem dX3_yearOn_0 : decode cX3_yearOn 0 = .ok (.aload_n 0, 1) := by decide +kernel
theorem dX3_yearOn_1 : decode cX3_yearOn 1 = .ok (.getfield 17, 3) := by decide +kernel
theorem dX3_yearOn_4 : decode cX3_yearOn 4 = .ok (.aload_n 0, 1) := by decide +kernel
theorem dX3_yearOn_5 : decode cX3_yearOn 5 = .ok (.getfield 35, 3) := by decide +kernel
theorem dX3_yearOn_8 : decode cX3_yearOn 8 = .ok (.iconst 0, 1) := by decide +kernel
theorem dX3_yearOn_9 : decode cX3_yearOn 9 = .ok (.iaload, 1) := by decide +kernel
theorem dX3_yearOn_10 : decode cX3_yearOn 10 = .ok (.bipush 12, 2) := by decide +kernel
theorem dX3_yearOn_12 : decode cX3_yearOn 12 = .ok (.irem, 1) := by decide +kernel
theorem dX3_yearOn_13 : decode cX3_yearOn 13 = .ok (.iaload, 1) := by decide +kernel
theorem dX3_yearOn_14 : decode cX3_yearOn 14 = .ok (.istore_n 1, 1) := by decide +kernel
theorem dX3_yearOn_15 : decode cX3_yearOn 15 = .ok (.iconst 0, 1) := by decide +kernel
theorem dX3_yearOn_16 : decode cX3_yearOn 16 = .ok (.istore_n 2, 1) := by decide +kernel
theorem dX3_yearOn_17 : decode cX3_yearOn 17 = .ok (.iload_n 2, 1) := by decide +kernel
theorem dX3_yearOn_18 : decode cX3_yearOn 18 = .ok (.aload_n 0, 1) := by decide +kernel
theorem dX3_yearOn_19 : decode cX3_yearOn 19 = .ok (.invokevirtual 49, 3) := by decide +kernel
theorem dX3_yearOn_22 : decode cX3_yearOn 22 = .ok (.if_icmp .ge 49, 3) := by decide +kernel
theorem dX3_yearOn_25 : decode cX3_yearOn 25 = .ok (.aload_n 0, 1) := by decide +kernel
theorem dX3_yearOn_26 : decode cX3_yearOn 26 = .ok (.iload_n 2, 1) := by decide +kernel
theorem dX3_yearOn_27 : decode cX3_yearOn 27 = .ok (.invokevirtual 87, 3) := by decide +kernel
theorem dX3_yearOn_30 : decode cX3_yearOn 30 = .ok (.istore_n 3, 1) := by decide +kernel
theorem dX3_yearOn_31 : decode cX3_yearOn 31 = .ok (.iload_n 3, 1) := by decide +kernel
theorem dX3_yearOn_32 : decode cX3_yearOn 32 = .ok (.iconst (-1), 1) := by decide +kernel
theorem dX3_yearOn_33 : decode cX3_yearOn 33 = .ok (.if_icmp .eq 32, 3) := by decide +kernel
theorem dX3_yearOn_36 : decode cX3_yearOn 36 = .ok (.aload_n 0, 1) := by decide +kernel
theorem dX3_yearOn_37 : decode cX3_yearOn 37 = .ok (.getfield 26, 3) := by decide +kernel
theorem dX3_yearOn_40 : decode cX3_yearOn 40 = .ok (.iload_n 3, 1) := by decide +kernel
theorem dX3_yearOn_41 : decode cX3_yearOn 41 = .ok (.iaload, 1) := by decide +kernel
theorem dX3_yearOn_42 : decode cX3_yearOn 42 = .ok (.iconst (-1), 1) := by decide +kernel
theorem dX3_yearOn_43 : decode cX3_yearOn 43 = .ok (.if_icmp .ne 22, 3) := by decide +kernel
theorem dX3_yearOn_46 : decode cX3_yearOn 46 = .ok (.aload_n 0, 1) := by decide +kernel
theorem dX3_yearOn_47 : decode cX3_yearOn 47 = .ok (.getfield 13, 3) := by decide +kernel
theorem dX3_yearOn_50 : decode cX3_yearOn 50 = .ok (.iload_n 3, 1) := by decide +kernel
theorem dX3_yearOn_51 : decode cX3_yearOn 51 = .ok (.baload, 1) := by decide +kernel
theorem dX3_yearOn_52 : decode cX3_yearOn 52 = .ok (.ifCond .ne 13, 3) := by decide +kernel
theorem dX3_yearOn_55 : decode cX3_yearOn 55 = .ok (.aload_n 0, 1) := by decide +kernel
theorem dX3_yearOn_56 : decode cX3_yearOn 56 = .ok (.getfield 29, 3) := by decide +kernel
theorem dX3_yearOn_59 : decode cX3_yearOn 59 = .ok (.iload_n 3, 1) := by decide +kernel
theorem dX3_yearOn_60 : decode cX3_yearOn 60 = .ok (.dup2, 1) := by decide +kernel
theorem dX3_yearOn_61 : decode cX3_yearOn 61 = .ok (.iaload, 1) := by decide +kernel
theorem dX3_yearOn_62 : decode cX3_yearOn 62 = .ok (.iload_n 1, 1) := by decide +kernel
theorem dX3_yearOn_63 : decode cX3_yearOn 63 = .ok (.iadd, 1) := by decide +kernel
theorem dX3_yearOn_64 : decode cX3_yearOn 64 = .ok (.iastore, 1) := by decide +kernel
theorem dX3_yearOn_65 : decode cX3_yearOn 65 = .ok (.iinc 2 1, 3) := by decide +kernel
theorem dX3_yearOn_68 : decode cX3_yearOn 68 = .ok (.goto (-51), 3) := by decide +kernel
theorem dX3_yearOn_71 : decode cX3_yearOn 71 = .ok (.iconst (-1), 1) := by decide +kernel
theorem dX3_yearOn_72 : decode cX3_yearOn 72 = .ok (.istore_n 2, 1) := by decide +kernel
theorem dX3_yearOn_73 : decode cX3_yearOn 73 = .ok (.iconst (-1), 1) := by decide +kernel
theorem dX3_yearOn_74 : decode cX3_yearOn 74 = .ok (.istore_n 3, 1) := by decide +kernel
theorem dX3_yearOn_75 : decode cX3_yearOn 75 = .ok (.iconst 0, 1) := by decide +kernel
theorem dX3_yearOn_76 : decode cX3_yearOn 76 = .ok (.istore 4, 2) := by decide +kernel
theorem dX3_yearOn_78 : decode cX3_yearOn 78 = .ok (.iload 4, 2) := by decide +kernel
theorem dX3_yearOn_80 : decode cX3_yearOn 80 = .ok (.aload_n 0, 1) := by decide +kernel
theorem dX3_yearOn_81 : decode cX3_yearOn 81 = .ok (.invokevirtual 49, 3) := by decide +kernel
theorem dX3_yearOn_84 : decode cX3_yearOn 84 = .ok (.if_icmp .ge 85, 3) := by decide +kernel
theorem dX3_yearOn_87 : decode cX3_yearOn 87 = .ok (.aload_n 0, 1) := by decide +kernel
theorem dX3_yearOn_88 : decode cX3_yearOn 88 = .ok (.iload 4, 2) := by decide +kernel
theorem dX3_yearOn_90 : decode cX3_yearOn 90 = .ok (.invokevirtual 87, 3) := by decide +kernel
theorem dX3_yearOn_93 : decode cX3_yearOn 93 = .ok (.istore 5, 2) := by decide +kernel
theorem dX3_yearOn_95 : decode cX3_yearOn 95 = .ok (.iload 5, 2) := by decide +kernel
theorem dX3_yearOn_97 : decode cX3_yearOn 97 = .ok (.iconst (-1), 1) := by decide +kernel
theorem dX3_yearOn_98 : decode cX3_yearOn 98 = .ok (.if_icmp .eq 65, 3) := by decide +kernel
theorem dX3_yearOn_101 : decode cX3_yearOn 101 = .ok (.aload_n 0, 1) := by decide +kernel
theorem dX3_yearOn_102 : decode cX3_yearOn 102 = .ok (.getfield 29, 3) := by decide +kernel
theorem dX3_yearOn_105 : decode cX3_yearOn 105 = .ok (.iload 5, 2) := by decide +kernel
theorem dX3_yearOn_107 : decode cX3_yearOn 107 = .ok (.iaload, 1) := by decide +kernel
theorem dX3_yearOn_108 : decode cX3_yearOn 108 = .ok (.bipush 10, 2) := by decide +kernel
theorem dX3_yearOn_110 : decode cX3_yearOn 110 = .ok (.aload_n 0, 1) := by decide +kernel
theorem dX3_yearOn_111 : decode cX3_yearOn 111 = .ok (.getfield 9, 3) := by decide +kernel
theorem dX3_yearOn_114 : decode cX3_yearOn 114 = .ok (.iload 5, 2) := by decide +kernel
theorem dX3_yearOn_116 : decode cX3_yearOn 116 = .ok (.iaload, 1) := by decide +kernel
theorem dX3_yearOn_117 : decode cX3_yearOn 117 = .ok (.imul, 1) := by decide +kernel
theorem dX3_yearOn_118 : decode cX3_yearOn 118 = .ok (.isub, 1) := by decide +kernel
theorem dX3_yearOn_119 : decode cX3_yearOn 119 = .ok (.iload_n 3, 1) := by decide +kernel
theorem dX3_yearOn_120 : decode cX3_yearOn 120 = .ok (.if_icmp .le 43, 3) := by decide +kernel
theorem dX3_yearOn_123 : decode cX3_yearOn 123 = .ok (.aload_n 0, 1) := by decide +kernel
theorem dX3_yearOn_124 : decode cX3_yearOn 124 = .ok (.iload 4, 2) := by decide +kernel
theorem dX3_yearOn_126 : decode cX3_yearOn 126 = .ok (.aload_n 0, 1) := by decide +kernel
theorem dX3_yearOn_127 : decode cX3_yearOn 127 = .ok (.iload 4, 2) := by decide +kernel
theorem dX3_yearOn_129 : decode cX3_yearOn 129 = .ok (.invokevirtual 77, 3) := by decide +kernel
theorem dX3_yearOn_132 : decode cX3_yearOn 132 = .ok (.invokevirtual 90, 3) := by decide +kernel
theorem dX3_yearOn_135 : decode cX3_yearOn 135 = .ok (.ifCond .ne 6, 3) := by decide +kernel
theorem dX3_yearOn_138 : decode cX3_yearOn 138 = .ok (.goto 25, 3) := by decide +kernel
theorem dX3_yearOn_141 : decode cX3_yearOn 141 = .ok (.iload 4, 2) := by decide +kernel
theorem dX3_yearOn_143 : decode cX3_yearOn 143 = .ok (.istore_n 2, 1) := by decide +kernel
theorem dX3_yearOn_144 : decode cX3_yearOn 144 = .ok (.aload_n 0, 1) := by decide +kernel
theorem dX3_yearOn_145 : decode cX3_yearOn 145 = .ok (.getfield 29, 3) := by decide +kernel
theorem dX3_yearOn_148 : decode cX3_yearOn 148 = .ok (.iload 5, 2) := by decide +kernel
theorem dX3_yearOn_150 : decode cX3_yearOn 150 = .ok (.iaload, 1) := by decide +kernel
theorem dX3_yearOn_151 : decode cX3_yearOn 151 = .ok (.bipush 10, 2) := by decide +kernel
theorem dX3_yearOn_153 : decode cX3_yearOn 153 = .ok (.aload_n 0, 1) := by decide +kernel
theorem dX3_yearOn_154 : decode cX3_yearOn 154 = .ok (.getfield 9, 3) := by decide +kernel
theorem dX3_yearOn_157 : decode cX3_yearOn 157 = .ok (.iload 5, 2) := by decide +kernel
theorem dX3_yearOn_159 : decode cX3_yearOn 159 = .ok (.iaload, 1) := by decide +kernel
theorem dX3_yearOn_160 : decode cX3_yearOn 160 = .ok (.imul, 1) := by decide +kernel
theorem dX3_yearOn_161 : decode cX3_yearOn 161 = .ok (.isub, 1) := by decide +kernel
theorem dX3_yearOn_162 : decode cX3_yearOn 162 = .ok (.istore_n 3, 1) := by decide +kernel
theorem dX3_yearOn_163 : decode cX3_yearOn 163 = .ok (.iinc 4 1, 3) := by decide +kernel
theorem dX3_yearOn_166 : decode cX3_yearOn 166 = .ok (.goto (-88), 3) := by decide +kernel
theorem dX3_yearOn_169 : decode cX3_yearOn 169 = .ok (.iload_n 2, 1) := by decide +kernel
theorem dX3_yearOn_170 : decode cX3_yearOn 170 = .ok (.iconst (-1), 1) := by decide +kernel
theorem dX3_yearOn_171 : decode cX3_yearOn 171 = .ok (.if_icmp .eq 13, 3) := by decide +kernel
theorem dX3_yearOn_174 : decode cX3_yearOn 174 = .ok (.aload_n 0, 1) := by decide +kernel
theorem dX3_yearOn_175 : decode cX3_yearOn 175 = .ok (.iload_n 2, 1) := by decide +kernel
theorem dX3_yearOn_176 : decode cX3_yearOn 176 = .ok (.aload_n 0, 1) := by decide +kernel
theorem dX3_yearOn_177 : decode cX3_yearOn 177 = .ok (.iload_n 2, 1) := by decide +kernel
theorem dX3_yearOn_178 : decode cX3_yearOn 178 = .ok (.invokevirtual 77, 3) := by decide +kernel
theorem dX3_yearOn_181 : decode cX3_yearOn 181 = .ok (.invokevirtual 93, 3) := by decide +kernel
theorem dX3_yearOn_184 : decode cX3_yearOn 184 = .ok (.iload_n 1, 1) := by decide +kernel
theorem dX3_yearOn_185 : decode cX3_yearOn 185 = .ok (.bipush 7, 2) := by decide +kernel
theorem dX3_yearOn_187 : decode cX3_yearOn 187 = .ok (.if_icmp .lt 7, 3) := by decide +kernel
theorem dX3_yearOn_190 : decode cX3_yearOn 190 = .ok (.aload_n 0, 1) := by decide +kernel
theorem dX3_yearOn_191 : decode cX3_yearOn 191 = .ok (.invokevirtual 124, 3) := by decide +kernel
theorem dX3_yearOn_194 : decode cX3_yearOn 194 = .ok (.iconst 0, 1) := by decide +kernel
theorem dX3_yearOn_195 : decode cX3_yearOn 195 = .ok (.istore 4, 2) := by decide +kernel
theorem dX3_yearOn_197 : decode cX3_yearOn 197 = .ok (.iload 4, 2) := by decide +kernel
theorem dX3_yearOn_199 : decode cX3_yearOn 199 = .ok (.sipush 384, 3) := by decide +kernel
theorem dX3_yearOn_202 : decode cX3_yearOn 202 = .ok (.if_icmp .ge 29, 3) := by decide +kernel
theorem dX3_yearOn_205 : decode cX3_yearOn 205 = .ok (.aload_n 0, 1) := by decide +kernel
theorem dX3_yearOn_206 : decode cX3_yearOn 206 = .ok (.getfield 32, 3) := by decide +kernel
theorem dX3_yearOn_209 : decode cX3_yearOn 209 = .ok (.iload 4, 2) := by decide +kernel
theorem dX3_yearOn_211 : decode cX3_yearOn 211 = .ok (.iconst 0, 1) := by decide +kernel
theorem dX3_yearOn_212 : decode cX3_yearOn 212 = .ok (.aload_n 0, 1) := by decide +kernel
theorem dX3_yearOn_213 : decode cX3_yearOn 213 = .ok (.getfield 32, 3) := by decide +kernel
theorem dX3_yearOn_216 : decode cX3_yearOn 216 = .ok (.iload 4, 2) := by decide +kernel
theorem dX3_yearOn_218 : decode cX3_yearOn 218 = .ok (.iaload, 1) := by decide +kernel
theorem dX3_yearOn_219 : decode cX3_yearOn 219 = .ok (.iconst 1, 1) := by decide +kernel
theorem dX3_yearOn_220 : decode cX3_yearOn 220 = .ok (.isub, 1) := by decide +kernel
theorem dX3_yearOn_221 : decode cX3_yearOn 221 = .ok (.invokestatic 108, 3) := by decide +kernel
theorem dX3_yearOn_224 : decode cX3_yearOn 224 = .ok (.iastore, 1) := by decide +kernel
theorem dX3_yearOn_225 : decode cX3_yearOn 225 = .ok (.iinc 4 1, 3) := by decide +kernel
theorem dX3_yearOn_228 : decode cX3_yearOn 228 = .ok (.goto (-31), 3) := by decide +kernel
theorem dX3_yearOn_231 : decode cX3_yearOn 231 = .ok (.aload_n 0, 1) := by decide +kernel
theorem dX3_yearOn_232 : decode cX3_yearOn 232 = .ok (.getfield 35, 3) := by decide +kernel
theorem dX3_yearOn_235 : decode cX3_yearOn 235 = .ok (.iconst 0, 1) := by decide +kernel
theorem dX3_yearOn_236 : decode cX3_yearOn 236 = .ok (.dup2, 1) := by decide +kernel
theorem dX3_yearOn_237 : decode cX3_yearOn 237 = .ok (.iaload, 1) := by decide +kernel
theorem dX3_yearOn_238 : decode cX3_yearOn 238 = .ok (.iconst 1, 1) := by decide +kernel
theorem dX3_yearOn_239 : decode cX3_yearOn 239 = .ok (.iadd, 1) := by decide +kernel
theorem dX3_yearOn_240 : decode cX3_yearOn 240 = .ok (.iastore, 1) := by decide +kernel
theorem dX3_yearOn_241 : decode cX3_yearOn 241 = .ok (.iload_n 2, 1) := by decide +kernel
theorem dX3_yearOn_242 : decode cX3_yearOn 242 = .ok (.iconst (-1), 1) := by decide +kernel
theorem dX3_yearOn_243 : decode cX3_yearOn 243 = .ok (.if_icmp .eq 7, 3) := by decide +kernel
theorem dX3_yearOn_246 : decode cX3_yearOn 246 = .ok (.iconst 1, 1) := by decide +kernel
theorem dX3_yearOn_247 : decode cX3_yearOn 247 = .ok (.goto 4, 3) := by decide +kernel
theorem dX3_yearOn_250 : decode cX3_yearOn 250 = .ok (.iconst 0, 1) := by decide +kernel
theorem dX3_yearOn_251 : decode cX3_yearOn 251 = .ok (.ireturn, 1) := by decide +kernel
set_option maxRecDepth 20000 in
theorem ggX3_yearsOn_X3_yearOn : GoodIn wsX3_yearsOn wsX3_yearOn := goodIn_r _ [5, 6, 7, 8, 9, 10, 11, 12, 13, 14, 15, 16, 17, 18, 19, 4, 20, 21, 22, 23, 24, 25, 26, 27, 28, 29, 30, 31, 32, 33, 34, 35, 36, 37, 38, 39, 40, 41, 42, 43, 44, 45, 46, 47, 48, 49, 50, 51, 52, 53, 54, 55, 56, 57, 58, 59, 60, 61, 62, 63, 64, 65, 66, 67, 68, 69, 70, 71, 72, 73, 74, 75, 76, 77, 78, 79, 80, 81, 82, 83, 84, 85] (by decide +kernel) (by decide +kernel)
set_option maxRecDepth 20000 in
theorem gX3_yearsOn_X3_yearOn : GoodIn wsX3_yearsOn (wsV RX3 143 RX3 yX3_yearOn wsX3_yearOn) := goodIn_app (goodIn_of _ (by decide +kernel)) ggX3_yearsOn_X3_yearOn
theorem dX3_yearsOn_0 : decode cX3_yearsOn 0 = .ok (.iconst 0, 1) := by decide +kernel
theorem dX3_yearsOn_1 : decode cX3_yearsOn 1 = .ok (.istore_n 2, 1) := by decide +kernel
theorem dX3_yearsOn_2 : decode cX3_yearsOn 2 = .ok (.iconst 0, 1) := by decide +kernel
theorem dX3_yearsOn_3 : decode cX3_yearsOn 3 = .ok (.istore_n 3, 1) := by decide +kernel
theorem dX3_yearsOn_4 : decode cX3_yearsOn 4 = .ok (.iload_n 3, 1) := by decide +kernel
theorem dX3_yearsOn_5 : decode cX3_yearsOn 5 = .ok (.iload_n 1, 1) := by decide +kernel
theorem dX3_yearsOn_6 : decode cX3_yearsOn 6 = .ok (.if_icmp .ge 24, 3) := by decide +kernel
theorem dX3_yearsOn_9 : decode cX3_yearsOn 9 = .ok (.iload_n 2, 1) := by decide +kernel
theorem dX3_yearsOn_10 : decode cX3_yearsOn 10 = .ok (.aload_n 0, 1) := by decide +kernel
theorem dX3_yearsOn_11 : decode cX3_yearsOn 11 = .ok (.invokevirtual 143, 3) := by decide +kernel
theorem dX3_yearsOn_14 : decode cX3_yearsOn 14 = .ok (.ifCond .eq 7, 3) := by decide +kernel
theorem dX3_yearsOn_17 : decode cX3_yearsOn 17 = .ok (.iconst 1, 1) := by decide +kernel
theorem dX3_yearsOn_18 : decode cX3_yearsOn 18 = .ok (.goto 4, 3) := by decide +kernel
theorem dX3_yearsOn_21 : decode cX3_yearsOn 21 = .ok (.iconst 0, 1) := by decide +kernel
theorem dX3_yearsOn_22 : decode cX3_yearsOn 22 = .ok (.iadd, 1) := by decide +kernel
theorem dX3_yearsOn_23 : decode cX3_yearsOn 23 = .ok (.istore_n 2, 1) := by decide +kernel
theorem dX3_yearsOn_24 : decode cX3_yearsOn 24 = .ok (.iinc 3 1, 3) := by decide +kernel
theorem dX3_yearsOn_27 : decode cX3_yearsOn 27 = .ok (.goto (-23), 3) := by decide +kernel
theorem dX3_yearsOn_30 : decode cX3_yearsOn 30 = .ok (.iload_n 2, 1) := by decide +kernel
theorem dX3_yearsOn_31 : decode cX3_yearsOn 31 = .ok (.ireturn, 1) := by decide +kernel
set_option maxRecDepth 20000 in
theorem ggX3_pass_X3_isIn : GoodIn wsX3_pass wsX3_isIn := goodIn_r _ [5] (by decide +kernel) (by decide +kernel)
set_option maxRecDepth 20000 in
theorem gX3_pass_X3_isIn : GoodIn wsX3_pass (va_wsS RX3 45 yX3_isIn wsX3_isIn) := goodIn_app (goodIn_of _ (by decide +kernel)) ggX3_pass_X3_isIn
set_option maxRecDepth 20000 in
theorem ggX3_pass_X3_yearsOn : GoodIn wsX3_pass wsX3_yearsOn := goodIn_r _ [9, 10, 11, 12, 4, 13, 14, 15, 16, 17, 18, 19, 20, 21, 22, 23, 24, 25, 26, 27, 28, 29, 30, 31, 32, 33, 34, 35, 36, 37, 38, 39, 40, 41, 42, 43, 44, 45, 46, 47, 48, 49, 50, 51, 2, 3, 5, 52, 53, 54, 55, 56, 57, 58, 59, 60, 61, 62, 63, 64, 65, 66, 67, 68, 69, 70, 71, 72, 73, 74, 75, 76, 77, 78, 79, 84, 85, 86, 87, 88, 89, 90, 91, 92, 93, 94] (by decide +kernel) (by decide +kernel)
set_option maxRecDepth 20000 in
theorem gX3_pass_X3_yearsOn : GoodIn wsX3_pass (wsV RX3 147 RX3 yX3_yearsOn wsX3_yearsOn) := goodIn_app (goodIn_of _ (by decide +kernel)) ggX3_pass_X3_yearsOn
set_option maxRecDepth 20000 in
theorem ggX3_pass_X3_fail : GoodIn wsX3_pass wsX3_fail := goodIn_r _ [83, 1, 84, 85, 86, 87, 88, 89, 90, 91, 92, 93, 94] (by decide +kernel) (by decide +kernel)
set_option maxRecDepth 20000 in
theorem gX3_pass_X3_fail : GoodIn wsX3_pass (wsV RX3 57 RX3 yX3_fail wsX3_fail) := goodIn_app (goodIn_of _ (by decide +kernel)) ggX3_pass_X3_fail
theorem dX3_pass_0 : decode cX3_pass 0 = .ok (.aload_n 0, 1) := by decide +kernel
theorem dX3_pass_1 : decode cX3_pass 1 = .ok (.iconst 0, 1) := by decide +kernel
theorem dX3_pass_2 : decode cX3_pass 2 = .ok (.putfield 41, 3) := by decide +kernel
theorem dX3_pass_5 : decode cX3_pass 5 = .ok (.iload_n 1, 1) := by decide +kernel
theorem dX3_pass_6 : decode cX3_pass 6 = .ok (.iconst 1, 1) := by decide +kernel
theorem dX3_pass_7 : decode cX3_pass 7 = .ok (.bipush 100, 2) := by decide +kernel
theorem dX3_pass_9 : decode cX3_pass 9 = .ok (.invokestatic 45, 3) := by decide +kernel
theorem dX3_pass_12 : decode cX3_pass 12 = .ok (.ifCond .eq 11, 3) := by decide +kernel
theorem dX3_pass_15 : decode cX3_pass 15 = .ok (.aload_n 0, 1) := by decide +kernel
theorem dX3_pass_16 : decode cX3_pass 16 = .ok (.iload_n 1, 1) := by decide +kernel
theorem dX3_pass_17 : decode cX3_pass 17 = .ok (.invokevirtual 147, 3) := by decide +kernel
theorem dX3_pass_20 : decode cX3_pass 20 = .ok (.goto 8, 3) := by decide +kernel
theorem dX3_pass_23 : decode cX3_pass 23 = .ok (.aload_n 0, 1) := by decide +kernel
theorem dX3_pass_24 : decode cX3_pass 24 = .ok (.iconst 1, 1) := by decide +kernel
theorem dX3_pass_25 : decode cX3_pass 25 = .ok (.invokevirtual 57, 3) := by decide +kernel
theorem dX3_pass_28 : decode cX3_pass 28 = .ok (.ireturn, 1) := by decide +kernel
set_option maxRecDepth 20000 in
theorem ggX3_counted_X3_length : GoodIn wsX3_counted wsX3_length := goodIn_r _ [9, 1, 24, 25, 26, 27, 28, 29, 30, 31, 32, 33, 34] (by decide +kernel) (by decide +kernel)
set_option maxRecDepth 20000 in
theorem gX3_counted_X3_length : GoodIn wsX3_counted (wsV RX3 49 RX3 yX3_length wsX3_length) := goodIn_app (goodIn_of _ (by decide +kernel)) ggX3_counted_X3_length
set_option maxRecDepth 20000 in
theorem ggX3_counted_X3_allStones : GoodIn wsX3_counted wsX3_allStones := goodIn_r _ [13, 14, 24, 25, 26, 27, 28, 29, 30, 31, 32, 33, 34] (by decide +kernel) (by decide +kernel)
set_option maxRecDepth 20000 in
theorem gX3_counted_X3_allStones : GoodIn wsX3_counted (wsV RX3 61 RX3 yX3_allStones wsX3_allStones) := goodIn_app (goodIn_of _ (by decide +kernel)) ggX3_counted_X3_allStones
set_option maxRecDepth 20000 in
theorem ggX3_counted_X3_isStraight : GoodIn wsX3_counted wsX3_isStraight := goodIn_r _ [18, 5, 6, 7, 8, 9, 1, 19, 20, 21, 22, 23, 24, 25, 26, 27, 28, 29, 30, 31, 32, 33, 34] (by decide +kernel) (by decide +kernel)
set_option maxRecDepth 20000 in
theorem gX3_counted_X3_isStraight : GoodIn wsX3_counted (wsV RX3 73 RX3 yX3_isStraight wsX3_isStraight) := goodIn_app (goodIn_of _ (by decide +kernel)) ggX3_counted_X3_isStraight
theorem dX3_counted_0 : decode cX3_counted 0 = .ok (.iconst 0, 1) := by decide +kernel
theorem dX3_counted_1 : decode cX3_counted 1 = .ok (.istore_n 2, 1) := by decide +kernel
theorem dX3_counted_2 : decode cX3_counted 2 = .ok (.iload_n 1, 1) := by decide +kernel
theorem dX3_counted_3 : decode cX3_counted 3 = .ok (.tableswitch 106 0 6 #[41, 48, 106, 53, 60, 65, 70], 41) := by decide +kernel
theorem dX3_counted_44 : decode cX3_counted 44 = .ok (.aload_n 0, 1) := by decide +kernel
theorem dX3_counted_45 : decode cX3_counted 45 = .ok (.getfield 35, 3) := by decide +kernel
theorem dX3_counted_48 : decode cX3_counted 48 = .ok (.iconst 0, 1) := by decide +kernel
theorem dX3_counted_49 : decode cX3_counted 49 = .ok (.iaload, 1) := by decide +kernel
theorem dX3_counted_50 : decode cX3_counted 50 = .ok (.ireturn, 1) := by decide +kernel
theorem dX3_counted_51 : decode cX3_counted 51 = .ok (.aload_n 0, 1) := by decide +kernel
theorem dX3_counted_52 : decode cX3_counted 52 = .ok (.invokevirtual 49, 3) := by decide +kernel
theorem dX3_counted_55 : decode cX3_counted 55 = .ok (.ireturn, 1) := by decide +kernel
theorem dX3_counted_56 : decode cX3_counted 56 = .ok (.aload_n 0, 1) := by decide +kernel
theorem dX3_counted_57 : decode cX3_counted 57 = .ok (.getfield 35, 3) := by decide +kernel
theorem dX3_counted_60 : decode cX3_counted 60 = .ok (.iconst 1, 1) := by decide +kernel
theorem dX3_counted_61 : decode cX3_counted 61 = .ok (.iaload, 1) := by decide +kernel
theorem dX3_counted_62 : decode cX3_counted 62 = .ok (.ireturn, 1) := by decide +kernel
theorem dX3_counted_63 : decode cX3_counted 63 = .ok (.aload_n 0, 1) := by decide +kernel
theorem dX3_counted_64 : decode cX3_counted 64 = .ok (.getfield 64, 3) := by decide +kernel
theorem dX3_counted_67 : decode cX3_counted 67 = .ok (.ireturn, 1) := by decide +kernel
theorem dX3_counted_68 : decode cX3_counted 68 = .ok (.aload_n 0, 1) := by decide +kernel
theorem dX3_counted_69 : decode cX3_counted 69 = .ok (.invokevirtual 61, 3) := by decide +kernel
theorem dX3_counted_72 : decode cX3_counted 72 = .ok (.ireturn, 1) := by decide +kernel
theorem dX3_counted_73 : decode cX3_counted 73 = .ok (.iconst 1, 1) := by decide +kernel
theorem dX3_counted_74 : decode cX3_counted 74 = .ok (.istore_n 3, 1) := by decide +kernel
theorem dX3_counted_75 : decode cX3_counted 75 = .ok (.iload_n 3, 1) := by decide +kernel
theorem dX3_counted_76 : decode cX3_counted 76 = .ok (.aload_n 0, 1) := by decide +kernel
theorem dX3_counted_77 : decode cX3_counted 77 = .ok (.invokevirtual 49, 3) := by decide +kernel
theorem dX3_counted_80 : decode cX3_counted 80 = .ok (.iconst 1, 1) := by decide +kernel
theorem dX3_counted_81 : decode cX3_counted 81 = .ok (.isub, 1) := by decide +kernel
theorem dX3_counted_82 : decode cX3_counted 82 = .ok (.if_icmp .ge 25, 3) := by decide +kernel
theorem dX3_counted_85 : decode cX3_counted 85 = .ok (.iload_n 2, 1) := by decide +kernel
theorem dX3_counted_86 : decode cX3_counted 86 = .ok (.aload_n 0, 1) := by decide +kernel
theorem dX3_counted_87 : decode cX3_counted 87 = .ok (.iload_n 3, 1) := by decide +kernel
theorem dX3_counted_88 : decode cX3_counted 88 = .ok (.invokevirtual 73, 3) := by decide +kernel
theorem dX3_counted_91 : decode cX3_counted 91 = .ok (.ifCond .eq 7, 3) := by decide +kernel
theorem dX3_counted_94 : decode cX3_counted 94 = .ok (.iconst 0, 1) := by decide +kernel
theorem dX3_counted_95 : decode cX3_counted 95 = .ok (.goto 4, 3) := by decide +kernel
theorem dX3_counted_98 : decode cX3_counted 98 = .ok (.iconst 1, 1) := by decide +kernel
theorem dX3_counted_99 : decode cX3_counted 99 = .ok (.iadd, 1) := by decide +kernel
theorem dX3_counted_100 : decode cX3_counted 100 = .ok (.istore_n 2, 1) := by decide +kernel
theorem dX3_counted_101 : decode cX3_counted 101 = .ok (.iinc 3 1, 3) := by decide +kernel
theorem dX3_counted_104 : decode cX3_counted 104 = .ok (.goto (-29), 3) := by decide +kernel
theorem dX3_counted_107 : decode cX3_counted 107 = .ok (.iload_n 2, 1) := by decide +kernel
theorem dX3_counted_108 : decode cX3_counted 108 = .ok (.ireturn, 1) := by decide +kernel
theorem dX3_counted_109 : decode cX3_counted 109 = .ok (.iconst 0, 1) := by decide +kernel
theorem dX3_counted_110 : decode cX3_counted 110 = .ok (.istore_n 3, 1) := by decide +kernel
theorem dX3_counted_111 : decode cX3_counted 111 = .ok (.iload_n 3, 1) := by decide +kernel
theorem dX3_counted_112 : decode cX3_counted 112 = .ok (.sipush 384, 3) := by decide +kernel
theorem dX3_counted_115 : decode cX3_counted 115 = .ok (.if_icmp .ge 41, 3) := by decide +kernel
theorem dX3_counted_118 : decode cX3_counted 118 = .ok (.iload_n 2, 1) := by decide +kernel
theorem dX3_counted_119 : decode cX3_counted 119 = .ok (.iload_n 1, 1) := by decide +kernel
theorem dX3_counted_120 : decode cX3_counted 120 = .ok (.bipush 7, 2) := by decide +kernel
theorem dX3_counted_122 : decode cX3_counted 122 = .ok (.if_icmp .ne 12, 3) := by decide +kernel
theorem dX3_counted_125 : decode cX3_counted 125 = .ok (.aload_n 0, 1) := by decide +kernel
theorem dX3_counted_126 : decode cX3_counted 126 = .ok (.getfield 29, 3) := by decide +kernel
theorem dX3_counted_129 : decode cX3_counted 129 = .ok (.iload_n 3, 1) := by decide +kernel
theorem dX3_counted_130 : decode cX3_counted 130 = .ok (.iaload, 1) := by decide +kernel
theorem dX3_counted_131 : decode cX3_counted 131 = .ok (.goto 17, 3) := by decide +kernel
theorem dX3_counted_134 : decode cX3_counted 134 = .ok (.aload_n 0, 1) := by decide +kernel
theorem dX3_counted_135 : decode cX3_counted 135 = .ok (.getfield 32, 3) := by decide +kernel
theorem dX3_counted_138 : decode cX3_counted 138 = .ok (.iload_n 3, 1) := by decide +kernel
theorem dX3_counted_139 : decode cX3_counted 139 = .ok (.iaload, 1) := by decide +kernel
theorem dX3_counted_140 : decode cX3_counted 140 = .ok (.ifCond .le 7, 3) := by decide +kernel
theorem dX3_counted_143 : decode cX3_counted 143 = .ok (.iconst 1, 1) := by decide +kernel
theorem dX3_counted_144 : decode cX3_counted 144 = .ok (.goto 4, 3) := by decide +kernel
theorem dX3_counted_147 : decode cX3_counted 147 = .ok (.iconst 0, 1) := by decide +kernel
theorem dX3_counted_148 : decode cX3_counted 148 = .ok (.iadd, 1) := by decide +kernel
theorem dX3_counted_149 : decode cX3_counted 149 = .ok (.istore_n 2, 1) := by decide +kernel
theorem dX3_counted_150 : decode cX3_counted 150 = .ok (.iinc 3 1, 3) := by decide +kernel
theorem dX3_counted_153 : decode cX3_counted 153 = .ok (.goto (-42), 3) := by decide +kernel
theorem dX3_counted_156 : decode cX3_counted 156 = .ok (.iload_n 2, 1) := by decide +kernel
theorem dX3_counted_157 : decode cX3_counted 157 = .ok (.ireturn, 1) := by decide +kernel
set_option maxRecDepth 20000 in
theorem ggX3_count_X3_isIn : GoodIn wsX3_count wsX3_isIn := goodIn_r _ [5] (by decide +kernel) (by decide +kernel)
set_option maxRecDepth 20000 in
theorem gX3_count_X3_isIn : GoodIn wsX3_count (va_wsS RX3 45 yX3_isIn wsX3_isIn) := goodIn_app (goodIn_of _ (by decide +kernel)) ggX3_count_X3_isIn
set_option maxRecDepth 20000 in
theorem ggX3_count_X3_counted : GoodIn wsX3_count wsX3_counted := goodIn_r _ [9, 10, 11, 12, 13, 14, 15, 16, 4, 17, 18, 19, 20, 21, 22, 23, 24, 25, 26, 27, 28, 29, 30, 31, 36, 37, 38, 39, 40, 41, 42, 43, 44, 45, 46] (by decide +kernel) (by decide +kernel)
set_option maxRecDepth 20000 in
theorem gX3_count_X3_counted : GoodIn wsX3_count (wsV RX3 150 RX3 yX3_counted wsX3_counted) := goodIn_app (goodIn_of _ (by decide +kernel)) ggX3_count_X3_counted
set_option maxRecDepth 20000 in
theorem ggX3_count_X3_fail : GoodIn wsX3_count wsX3_fail := goodIn_r _ [35, 1, 36, 37, 38, 39, 40, 41, 42, 43, 44, 45, 46] (by decide +kernel) (by decide +kernel)
set_option maxRecDepth 20000 in
theorem gX3_count_X3_fail : GoodIn wsX3_count (wsV RX3 57 RX3 yX3_fail wsX3_fail) := goodIn_app (goodIn_of _ (by decide +kernel)) ggX3_count_X3_fail
theorem dX3_count_0 : decode cX3_count 0 = .ok (.aload_n 0, 1) := by decide +kernel
theorem dX3_count_1 : decode cX3_count 1 = .ok (.iconst 0, 1) := by decide +kernel
theorem dX3_count_2 : decode cX3_count 2 = .ok (.putfield 41, 3) := by decide +kernel
theorem dX3_count_5 : decode cX3_count 5 = .ok (.iload_n 1, 1) := by decide +kernel
theorem dX3_count_6 : decode cX3_count 6 = .ok (.iconst 0, 1) := by decide +kernel
theorem dX3_count_7 : decode cX3_count 7 = .ok (.bipush 7, 2) := by decide +kernel
theorem dX3_count_9 : decode cX3_count 9 = .ok (.invokestatic 45, 3) := by decide +kernel
theorem dX3_count_12 : decode cX3_count 12 = .ok (.ifCond .eq 11, 3) := by decide +kernel
theorem dX3_count_15 : decode cX3_count 15 = .ok (.aload_n 0, 1) := by decide +kernel
theorem dX3_count_16 : decode cX3_count 16 = .ok (.iload_n 1, 1) := by decide +kernel
theorem dX3_count_17 : decode cX3_count 17 = .ok (.invokevirtual 150, 3) := by decide +kernel
theorem dX3_count_20 : decode cX3_count 20 = .ok (.goto 8, 3) := by decide +kernel
theorem dX3_count_23 : decode cX3_count 23 = .ok (.aload_n 0, 1) := by decide +kernel
theorem dX3_count_24 : decode cX3_count 24 = .ok (.iconst 1, 1) := by decide +kernel
theorem dX3_count_25 : decode cX3_count 25 = .ok (.invokevirtual 57, 3) := by decide +kernel
theorem dX3_count_28 : decode cX3_count 28 = .ok (.ireturn, 1) := by decide +kernel
theorem dX3_kept_0 : decode cX3_kept 0 = .ok (.iconst 4, 1) := by decide +kernel
theorem dX3_kept_1 : decode cX3_kept 1 = .ok (.anewarray 153, 3) := by decide +kernel
theorem dX3_kept_4 : decode cX3_kept 4 = .ok (.dup, 1) := by decide +kernel
theorem dX3_kept_5 : decode cX3_kept 5 = .ok (.iconst 0, 1) := by decide +kernel
theorem dX3_kept_6 : decode cX3_kept 6 = .ok (.aload_n 0, 1) := by decide +kernel
theorem dX3_kept_7 : decode cX3_kept 7 = .ok (.getfield 23, 3) := by decide +kernel
theorem dX3_kept_10 : decode cX3_kept 10 = .ok (.invokevirtual 154, 3) := by decide +kernel
theorem dX3_kept_13 : decode cX3_kept 13 = .ok (.checkcast 153, 3) := by decide +kernel
theorem dX3_kept_16 : decode cX3_kept 16 = .ok (.aastore, 1) := by decide +kernel
theorem dX3_kept_17 : decode cX3_kept 17 = .ok (.dup, 1) := by decide +kernel
theorem dX3_kept_18 : decode cX3_kept 18 = .ok (.iconst 1, 1) := by decide +kernel
theorem dX3_kept_19 : decode cX3_kept 19 = .ok (.aload_n 0, 1) := by decide +kernel
theorem dX3_kept_20 : decode cX3_kept 20 = .ok (.getfield 29, 3) := by decide +kernel
theorem dX3_kept_23 : decode cX3_kept 23 = .ok (.invokevirtual 154, 3) := by decide +kernel
theorem dX3_kept_26 : decode cX3_kept 26 = .ok (.checkcast 153, 3) := by decide +kernel
theorem dX3_kept_29 : decode cX3_kept 29 = .ok (.aastore, 1) := by decide +kernel
theorem dX3_kept_30 : decode cX3_kept 30 = .ok (.dup, 1) := by decide +kernel
theorem dX3_kept_31 : decode cX3_kept 31 = .ok (.iconst 2, 1) := by decide +kernel
theorem dX3_kept_32 : decode cX3_kept 32 = .ok (.aload_n 0, 1) := by decide +kernel
theorem dX3_kept_33 : decode cX3_kept 33 = .ok (.getfield 32, 3) := by decide +kernel
theorem dX3_kept_36 : decode cX3_kept 36 = .ok (.invokevirtual 154, 3) := by decide +kernel
theorem dX3_kept_39 : decode cX3_kept 39 = .ok (.checkcast 153, 3) := by decide +kernel
theorem dX3_kept_42 : decode cX3_kept 42 = .ok (.aastore, 1) := by decide +kernel
theorem dX3_kept_43 : decode cX3_kept 43 = .ok (.dup, 1) := by decide +kernel
theorem dX3_kept_44 : decode cX3_kept 44 = .ok (.iconst 3, 1) := by decide +kernel
theorem dX3_kept_45 : decode cX3_kept 45 = .ok (.aload_n 0, 1) := by decide +kernel
theorem dX3_kept_46 : decode cX3_kept 46 = .ok (.getfield 35, 3) := by decide +kernel
theorem dX3_kept_49 : decode cX3_kept 49 = .ok (.invokevirtual 154, 3) := by decide +kernel
theorem dX3_kept_52 : decode cX3_kept 52 = .ok (.checkcast 153, 3) := by decide +kernel
theorem dX3_kept_55 : decode cX3_kept 55 = .ok (.aastore, 1) := by decide +kernel
theorem dX3_kept_56 : decode cX3_kept 56 = .ok (.areturn, 1) := by decide +kernel
set_option maxRecDepth 20000 in
theorem ggX3_bringBack_X3_place : GoodIn wsX3_bringBack wsX3_place := goodIn_r _ [13, 14, 1, 15, 16, 17, 12, 18, 8, 19, 20, 21, 22, 23, 24, 25, 26, 27, 28, 29] (by decide +kernel) (by decide +kernel)
set_option maxRecDepth 20000 in
theorem gX3_bringBack_X3_place : GoodIn wsX3_bringBack (wsV RX3 38 RX3 yX3_place wsX3_place) := goodIn_app (goodIn_of _ (by decide +kernel)) ggX3_bringBack_X3_place
theorem dX3_bringBack_0 : decode cX3_bringBack 0 = .ok (.aload_n 1, 1) := by decide +kernel
theorem dX3_bringBack_1 : decode cX3_bringBack 1 = .ok (.iconst 0, 1) := by decide +kernel
theorem dX3_bringBack_2 : decode cX3_bringBack 2 = .ok (.aaload, 1) := by decide +kernel
theorem dX3_bringBack_3 : decode cX3_bringBack 3 = .ok (.iconst 0, 1) := by decide +kernel
theorem dX3_bringBack_4 : decode cX3_bringBack 4 = .ok (.aload_n 0, 1) := by decide +kernel
theorem dX3_bringBack_5 : decode cX3_bringBack 5 = .ok (.getfield 23, 3) := by decide +kernel
theorem dX3_bringBack_8 : decode cX3_bringBack 8 = .ok (.iconst 0, 1) := by decide +kernel
theorem dX3_bringBack_9 : decode cX3_bringBack 9 = .ok (.aload_n 0, 1) := by decide +kernel
theorem dX3_bringBack_10 : decode cX3_bringBack 10 = .ok (.getfield 23, 3) := by decide +kernel
theorem dX3_bringBack_13 : decode cX3_bringBack 13 = .ok (.arraylength, 1) := by decide +kernel
theorem dX3_bringBack_14 : decode cX3_bringBack 14 = .ok (.invokestatic 131, 3) := by decide +kernel
theorem dX3_bringBack_17 : decode cX3_bringBack 17 = .ok (.aload_n 1, 1) := by decide +kernel
theorem dX3_bringBack_18 : decode cX3_bringBack 18 = .ok (.iconst 1, 1) := by decide +kernel
theorem dX3_bringBack_19 : decode cX3_bringBack 19 = .ok (.aaload, 1) := by decide +kernel
theorem dX3_bringBack_20 : decode cX3_bringBack 20 = .ok (.iconst 0, 1) := by decide +kernel
theorem dX3_bringBack_21 : decode cX3_bringBack 21 = .ok (.aload_n 0, 1) := by decide +kernel
theorem dX3_bringBack_22 : decode cX3_bringBack 22 = .ok (.getfield 29, 3) := by decide +kernel
theorem dX3_bringBack_25 : decode cX3_bringBack 25 = .ok (.iconst 0, 1) := by decide +kernel
theorem dX3_bringBack_26 : decode cX3_bringBack 26 = .ok (.sipush 384, 3) := by decide +kernel
theorem dX3_bringBack_29 : decode cX3_bringBack 29 = .ok (.invokestatic 131, 3) := by decide +kernel
theorem dX3_bringBack_32 : decode cX3_bringBack 32 = .ok (.aload_n 1, 1) := by decide +kernel
theorem dX3_bringBack_33 : decode cX3_bringBack 33 = .ok (.iconst 2, 1) := by decide +kernel
theorem dX3_bringBack_34 : decode cX3_bringBack 34 = .ok (.aaload, 1) := by decide +kernel
theorem dX3_bringBack_35 : decode cX3_bringBack 35 = .ok (.iconst 0, 1) := by decide +kernel
theorem dX3_bringBack_36 : decode cX3_bringBack 36 = .ok (.aload_n 0, 1) := by decide +kernel
theorem dX3_bringBack_37 : decode cX3_bringBack 37 = .ok (.getfield 32, 3) := by decide +kernel
theorem dX3_bringBack_40 : decode cX3_bringBack 40 = .ok (.iconst 0, 1) := by decide +kernel
theorem dX3_bringBack_41 : decode cX3_bringBack 41 = .ok (.sipush 384, 3) := by decide +kernel
theorem dX3_bringBack_44 : decode cX3_bringBack 44 = .ok (.invokestatic 131, 3) := by decide +kernel
theorem dX3_bringBack_47 : decode cX3_bringBack 47 = .ok (.aload_n 1, 1) := by decide +kernel
theorem dX3_bringBack_48 : decode cX3_bringBack 48 = .ok (.iconst 3, 1) := by decide +kernel
theorem dX3_bringBack_49 : decode cX3_bringBack 49 = .ok (.aaload, 1) := by decide +kernel
theorem dX3_bringBack_50 : decode cX3_bringBack 50 = .ok (.iconst 0, 1) := by decide +kernel
theorem dX3_bringBack_51 : decode cX3_bringBack 51 = .ok (.aload_n 0, 1) := by decide +kernel
theorem dX3_bringBack_52 : decode cX3_bringBack 52 = .ok (.getfield 35, 3) := by decide +kernel
theorem dX3_bringBack_55 : decode cX3_bringBack 55 = .ok (.iconst 0, 1) := by decide +kernel
theorem dX3_bringBack_56 : decode cX3_bringBack 56 = .ok (.aload_n 0, 1) := by decide +kernel
theorem dX3_bringBack_57 : decode cX3_bringBack 57 = .ok (.getfield 35, 3) := by decide +kernel
theorem dX3_bringBack_60 : decode cX3_bringBack 60 = .ok (.arraylength, 1) := by decide +kernel
theorem dX3_bringBack_61 : decode cX3_bringBack 61 = .ok (.invokestatic 131, 3) := by decide +kernel
theorem dX3_bringBack_64 : decode cX3_bringBack 64 = .ok (.aload_n 0, 1) := by decide +kernel
theorem dX3_bringBack_65 : decode cX3_bringBack 65 = .ok (.invokevirtual 38, 3) := by decide +kernel
theorem dX3_bringBack_68 : decode cX3_bringBack 68 = .ok (.return_, 1) := by decide +kernel
set_option maxRecDepth 20000 in
theorem ggX3_foresee_X3_isIn : GoodIn wsX3_foresee wsX3_isIn := goodIn_r _ [6] (by decide +kernel) (by decide +kernel)
set_option maxRecDepth 20000 in
theorem gX3_foresee_X3_isIn : GoodIn wsX3_foresee (va_wsS RX3 45 yX3_isIn wsX3_isIn) := goodIn_app (goodIn_of _ (by decide +kernel)) ggX3_foresee_X3_isIn
set_option maxRecDepth 20000 in
theorem ggX3_foresee_X3_fail : GoodIn wsX3_foresee wsX3_fail := goodIn_r _ [10, 1, 102, 103, 104, 105, 106, 107, 108, 109, 110, 111, 112] (by decide +kernel) (by decide +kernel)
set_option maxRecDepth 20000 in
theorem gX3_foresee_X3_fail : GoodIn wsX3_foresee (wsV RX3 57 RX3 yX3_fail wsX3_fail) := goodIn_app (goodIn_of _ (by decide +kernel)) ggX3_foresee_X3_fail
set_option maxRecDepth 20000 in
theorem ggX3_foresee_X3_kept : GoodIn wsX3_foresee wsX3_kept := goodIn_r _ [14, 15, 16, 17, 18, 19, 20, 21, 22, 23, 2, 102, 103, 104, 105, 106, 107, 108, 109, 110, 111, 112] (by decide +kernel) (by decide +kernel)
set_option maxRecDepth 20000 in
theorem gX3_foresee_X3_kept : GoodIn wsX3_foresee (wsV RX3 120 RX3 yX3_kept wsX3_kept) := goodIn_app (goodIn_of _ (by decide +kernel)) ggX3_foresee_X3_kept
set_option maxRecDepth 20000 in
theorem ggX3_foresee_X3_yearsOn : GoodIn wsX3_foresee wsX3_yearsOn := goodIn_r _ [27, 28, 29, 30, 5, 31, 32, 2, 33, 34, 22, 35, 23, 36, 37, 38, 39, 40, 41, 42, 43, 44, 45, 46, 47, 16, 48, 49, 50, 51, 52, 53, 54, 55, 56, 57, 58, 59, 60, 61, 62, 63, 64, 65, 3, 4, 6, 66, 67, 68, 69, 70, 71, 72, 73, 74, 75, 76, 77, 78, 79, 80, 81, 82, 83, 84, 85, 86, 87, 88, 89, 90, 91, 92, 93, 102, 103, 104, 105, 106, 107, 108, 109, 110, 111, 112] (by decide +kernel) (by decide +kernel)
set_option maxRecDepth 20000 in
theorem gX3_foresee_X3_yearsOn : GoodIn wsX3_foresee (wsV RX3 147 RX3 yX3_yearsOn wsX3_yearsOn) := goodIn_app (goodIn_of _ (by decide +kernel)) ggX3_foresee_X3_yearsOn
set_option maxRecDepth 20000 in
theorem ggX3_foresee_X3_length : GoodIn wsX3_foresee wsX3_length := goodIn_r _ [43, 2, 102, 103, 104, 105, 106, 107, 108, 109, 110, 111, 112] (by decide +kernel) (by decide +kernel)
set_option maxRecDepth 20000 in
theorem gX3_foresee_X3_length : GoodIn wsX3_foresee (wsV RX3 49 RX3 yX3_length wsX3_length) := goodIn_app (goodIn_of _ (by decide +kernel)) ggX3_foresee_X3_length
set_option maxRecDepth 20000 in
theorem ggX3_foresee_X3_bringBack : GoodIn wsX3_foresee wsX3_bringBack := goodIn_r _ [97, 16, 98, 99, 100, 101, 22, 23, 2, 74, 75, 76, 5, 77, 33, 40, 41, 42, 43, 102, 103, 104, 105, 106, 107, 108, 109, 110, 111, 112] (by decide +kernel) (by decide +kernel)
set_option maxRecDepth 20000 in
theorem gX3_foresee_X3_bringBack : GoodIn wsX3_foresee (wsV RX3 127 RX3 yX3_bringBack wsX3_bringBack) := goodIn_app (goodIn_of _ (by decide +kernel)) ggX3_foresee_X3_bringBack
theorem dX3_foresee_0 : decode cX3_foresee 0 = .ok (.aload_n 0, 1) := by decide +kernel
theorem dX3_foresee_1 : decode cX3_foresee 1 = .ok (.iconst 0, 1) := by decide +kernel
theorem dX3_foresee_2 : decode cX3_foresee 2 = .ok (.putfield 41, 3) := by decide +kernel
theorem dX3_foresee_5 : decode cX3_foresee 5 = .ok (.iload_n 1, 1) := by decide +kernel
theorem dX3_foresee_6 : decode cX3_foresee 6 = .ok (.iconst 1, 1) := by decide +kernel
theorem dX3_foresee_7 : decode cX3_foresee 7 = .ok (.bipush 100, 2) := by decide +kernel
theorem dX3_foresee_9 : decode cX3_foresee 9 = .ok (.invokestatic 45, 3) := by decide +kernel
theorem dX3_foresee_12 : decode cX3_foresee 12 = .ok (.ifCond .ne 9, 3) := by decide +kernel
theorem dX3_foresee_15 : decode cX3_foresee 15 = .ok (.aload_n 0, 1) := by decide +kernel
theorem dX3_foresee_16 : decode cX3_foresee 16 = .ok (.iconst 1, 1) := by decide +kernel
theorem dX3_foresee_17 : decode cX3_foresee 17 = .ok (.invokevirtual 57, 3) := by decide +kernel
theorem dX3_foresee_20 : decode cX3_foresee 20 = .ok (.ireturn, 1) := by decide +kernel
theorem dX3_foresee_21 : decode cX3_foresee 21 = .ok (.iload_n 2, 1) := by decide +kernel
theorem dX3_foresee_22 : decode cX3_foresee 22 = .ok (.iconst 0, 1) := by decide +kernel
theorem dX3_foresee_23 : decode cX3_foresee 23 = .ok (.iconst 2, 1) := by decide +kernel
theorem dX3_foresee_24 : decode cX3_foresee 24 = .ok (.invokestatic 45, 3) := by decide +kernel
theorem dX3_foresee_27 : decode cX3_foresee 27 = .ok (.ifCond .ne 9, 3) := by decide +kernel
theorem dX3_foresee_30 : decode cX3_foresee 30 = .ok (.aload_n 0, 1) := by decide +kernel
theorem dX3_foresee_31 : decode cX3_foresee 31 = .ok (.iconst 2, 1) := by decide +kernel
theorem dX3_foresee_32 : decode cX3_foresee 32 = .ok (.invokevirtual 57, 3) := by decide +kernel
theorem dX3_foresee_35 : decode cX3_foresee 35 = .ok (.ireturn, 1) := by decide +kernel
theorem dX3_foresee_36 : decode cX3_foresee 36 = .ok (.aload_n 0, 1) := by decide +kernel
theorem dX3_foresee_37 : decode cX3_foresee 37 = .ok (.invokevirtual 120, 3) := by decide +kernel
theorem dX3_foresee_40 : decode cX3_foresee 40 = .ok (.astore_n 3, 1) := by decide +kernel
theorem dX3_foresee_41 : decode cX3_foresee 41 = .ok (.aload_n 0, 1) := by decide +kernel
theorem dX3_foresee_42 : decode cX3_foresee 42 = .ok (.iload_n 1, 1) := by decide +kernel
theorem dX3_foresee_43 : decode cX3_foresee 43 = .ok (.invokevirtual 147, 3) := by decide +kernel
theorem dX3_foresee_46 : decode cX3_foresee 46 = .ok (.istore 4, 2) := by decide +kernel
theorem dX3_foresee_48 : decode cX3_foresee 48 = .ok (.iload_n 2, 1) := by decide +kernel
theorem dX3_foresee_49 : decode cX3_foresee 49 = .ok (.ifCond .ne 10, 3) := by decide +kernel
theorem dX3_foresee_52 : decode cX3_foresee 52 = .ok (.aload_n 0, 1) := by decide +kernel
theorem dX3_foresee_53 : decode cX3_foresee 53 = .ok (.invokevirtual 49, 3) := by decide +kernel
theorem dX3_foresee_56 : decode cX3_foresee 56 = .ok (.goto 25, 3) := by decide +kernel
theorem dX3_foresee_59 : decode cX3_foresee 59 = .ok (.iload_n 2, 1) := by decide +kernel
theorem dX3_foresee_60 : decode cX3_foresee 60 = .ok (.iconst 1, 1) := by decide +kernel
theorem dX3_foresee_61 : decode cX3_foresee 61 = .ok (.if_icmp .ne 18, 3) := by decide +kernel
theorem dX3_foresee_64 : decode cX3_foresee 64 = .ok (.aload_n 0, 1) := by decide +kernel
theorem dX3_foresee_65 : decode cX3_foresee 65 = .ok (.getfield 35, 3) := by decide +kernel
theorem dX3_foresee_68 : decode cX3_foresee 68 = .ok (.iconst 1, 1) := by decide +kernel
theorem dX3_foresee_69 : decode cX3_foresee 69 = .ok (.iaload, 1) := by decide +kernel
theorem dX3_foresee_70 : decode cX3_foresee 70 = .ok (.aload_n 3, 1) := by decide +kernel
theorem dX3_foresee_71 : decode cX3_foresee 71 = .ok (.iconst 3, 1) := by decide +kernel
theorem dX3_foresee_72 : decode cX3_foresee 72 = .ok (.aaload, 1) := by decide +kernel
theorem dX3_foresee_73 : decode cX3_foresee 73 = .ok (.iconst 1, 1) := by decide +kernel
theorem dX3_foresee_74 : decode cX3_foresee 74 = .ok (.iaload, 1) := by decide +kernel
theorem dX3_foresee_75 : decode cX3_foresee 75 = .ok (.isub, 1) := by decide +kernel
theorem dX3_foresee_76 : decode cX3_foresee 76 = .ok (.goto 5, 3) := by decide +kernel
theorem dX3_foresee_79 : decode cX3_foresee 79 = .ok (.iload 4, 2) := by decide +kernel
theorem dX3_foresee_81 : decode cX3_foresee 81 = .ok (.istore 5, 2) := by decide +kernel
theorem dX3_foresee_83 : decode cX3_foresee 83 = .ok (.aload_n 0, 1) := by decide +kernel
theorem dX3_foresee_84 : decode cX3_foresee 84 = .ok (.aload_n 3, 1) := by decide +kernel
theorem dX3_foresee_85 : decode cX3_foresee 85 = .ok (.invokevirtual 127, 3) := by decide +kernel
theorem dX3_foresee_88 : decode cX3_foresee 88 = .ok (.iload 5, 2) := by decide +kernel
theorem dX3_foresee_90 : decode cX3_foresee 90 = .ok (.ireturn, 1) := by decide +kernel
set_option maxRecDepth 20000 in
theorem ggX3_loses_X3_isFarm : GoodIn wsX3_loses wsX3_isFarm := goodIn_r _ [6, 7, 8, 9, 5, 10, 112, 113, 114, 115, 116, 117, 118, 119, 120, 121, 122] (by decide +kernel) (by decide +kernel)
set_option maxRecDepth 20000 in
theorem gX3_loses_X3_isFarm : GoodIn wsX3_loses (wsV RX3 137 RX3 yX3_isFarm wsX3_isFarm) := goodIn_app (goodIn_of _ (by decide +kernel)) ggX3_loses_X3_isFarm
set_option maxRecDepth 20000 in
theorem ggX3_loses_X3_fail : GoodIn wsX3_loses wsX3_fail := goodIn_r _ [14, 1, 112, 113, 114, 115, 116, 117, 118, 119, 120, 121, 122] (by decide +kernel) (by decide +kernel)
set_option maxRecDepth 20000 in
theorem gX3_loses_X3_fail : GoodIn wsX3_loses (wsV RX3 57 RX3 yX3_fail wsX3_fail) := goodIn_app (goodIn_of _ (by decide +kernel)) ggX3_loses_X3_fail
set_option maxRecDepth 20000 in
theorem ggX3_loses_X3_kept : GoodIn wsX3_loses wsX3_kept := goodIn_r _ [18, 19, 20, 21, 22, 23, 24, 25, 26, 27, 28, 112, 113, 114, 115, 116, 117, 118, 119, 120, 121, 122] (by decide +kernel) (by decide +kernel)
set_option maxRecDepth 20000 in
theorem gX3_loses_X3_kept : GoodIn wsX3_loses (wsV RX3 120 RX3 yX3_kept wsX3_kept) := goodIn_app (goodIn_of _ (by decide +kernel)) ggX3_loses_X3_kept
set_option maxRecDepth 20000 in
theorem ggX3_loses_X3_farmTold : GoodIn wsX3_loses wsX3_farmTold := goodIn_r _ [32, 33, 27, 34, 35, 36, 37, 5, 38, 39, 8, 9, 10, 112, 113, 114, 115, 116, 117, 118, 119, 120, 121, 122] (by decide +kernel) (by decide +kernel)
set_option maxRecDepth 20000 in
theorem gX3_loses_X3_farmTold : GoodIn wsX3_loses (wsV RX3 140 RX3 yX3_farmTold wsX3_farmTold) := goodIn_app (goodIn_of _ (by decide +kernel)) ggX3_loses_X3_farmTold
set_option maxRecDepth 20000 in
theorem ggX3_loses_X3_yearOn : GoodIn wsX3_loses wsX3_yearOn := goodIn_r _ [43, 44, 28, 33, 34, 26, 45, 27, 46, 47, 48, 49, 50, 51, 52, 5, 53, 54, 55, 56, 57, 20, 58, 59, 60, 61, 62, 63, 64, 65, 66, 67, 68, 69, 70, 71, 72, 73, 74, 75, 8, 9, 10, 76, 77, 78, 79, 80, 81, 82, 83, 84, 85, 86, 87, 88, 89, 90, 91, 92, 93, 94, 95, 96, 97, 98, 99, 100, 101, 102, 103, 112, 113, 114, 115, 116, 117, 118, 119, 120, 121, 122] (by decide +kernel) (by decide +kernel)
set_option maxRecDepth 20000 in
theorem gX3_loses_X3_yearOn : GoodIn wsX3_loses (wsV RX3 143 RX3 yX3_yearOn wsX3_yearOn) := goodIn_app (goodIn_of _ (by decide +kernel)) ggX3_loses_X3_yearOn
set_option maxRecDepth 20000 in
theorem ggX3_loses_X3_bringBack : GoodIn wsX3_loses wsX3_bringBack := goodIn_r _ [107, 20, 108, 109, 110, 111, 26, 27, 28, 84, 85, 86, 5, 87, 33, 50, 51, 52, 53, 112, 113, 114, 115, 116, 117, 118, 119, 120, 121, 122] (by decide +kernel) (by decide +kernel)
set_option maxRecDepth 20000 in
theorem gX3_loses_X3_bringBack : GoodIn wsX3_loses (wsV RX3 127 RX3 yX3_bringBack wsX3_bringBack) := goodIn_app (goodIn_of _ (by decide +kernel)) ggX3_loses_X3_bringBack
theorem dX3_loses_0 : decode cX3_loses 0 = .ok (.aload_n 0, 1) := by decide +kernel
theorem dX3_loses_1 : decode cX3_loses 1 = .ok (.iconst 0, 1) := by decide +kernel
theorem dX3_loses_2 : decode cX3_loses 2 = .ok (.putfield 41, 3) := by decide +kernel
theorem dX3_loses_5 : decode cX3_loses 5 = .ok (.aload_n 0, 1) := by decide +kernel
theorem dX3_loses_6 : decode cX3_loses 6 = .ok (.iload_n 1, 1) := by decide +kernel
theorem dX3_loses_7 : decode cX3_loses 7 = .ok (.invokevirtual 137, 3) := by decide +kernel
theorem dX3_loses_10 : decode cX3_loses 10 = .ok (.ifCond .ne 9, 3) := by decide +kernel
theorem dX3_loses_13 : decode cX3_loses 13 = .ok (.aload_n 0, 1) := by decide +kernel
theorem dX3_loses_14 : decode cX3_loses 14 = .ok (.iconst 1, 1) := by decide +kernel
theorem dX3_loses_15 : decode cX3_loses 15 = .ok (.invokevirtual 57, 3) := by decide +kernel
theorem dX3_loses_18 : decode cX3_loses 18 = .ok (.ireturn, 1) := by decide +kernel
theorem dX3_loses_19 : decode cX3_loses 19 = .ok (.aload_n 0, 1) := by decide +kernel
theorem dX3_loses_20 : decode cX3_loses 20 = .ok (.invokevirtual 120, 3) := by decide +kernel
theorem dX3_loses_23 : decode cX3_loses 23 = .ok (.astore_n 2, 1) := by decide +kernel
theorem dX3_loses_24 : decode cX3_loses 24 = .ok (.aload_n 0, 1) := by decide +kernel
theorem dX3_loses_25 : decode cX3_loses 25 = .ok (.iload_n 1, 1) := by decide +kernel
theorem dX3_loses_26 : decode cX3_loses 26 = .ok (.iconst 1, 1) := by decide +kernel
theorem dX3_loses_27 : decode cX3_loses 27 = .ok (.invokevirtual 140, 3) := by decide +kernel
theorem dX3_loses_30 : decode cX3_loses 30 = .ok (.istore_n 3, 1) := by decide +kernel
theorem dX3_loses_31 : decode cX3_loses 31 = .ok (.iconst (-1), 1) := by decide +kernel
theorem dX3_loses_32 : decode cX3_loses 32 = .ok (.istore 4, 2) := by decide +kernel
theorem dX3_loses_34 : decode cX3_loses 34 = .ok (.iconst 1, 1) := by decide +kernel
theorem dX3_loses_35 : decode cX3_loses 35 = .ok (.istore 5, 2) := by decide +kernel
theorem dX3_loses_37 : decode cX3_loses 37 = .ok (.iload 5, 2) := by decide +kernel
theorem dX3_loses_39 : decode cX3_loses 39 = .ok (.bipush 60, 2) := by decide +kernel
theorem dX3_loses_41 : decode cX3_loses 41 = .ok (.if_icmp .gt 34, 3) := by decide +kernel
theorem dX3_loses_44 : decode cX3_loses 44 = .ok (.iload 4, 2) := by decide +kernel
theorem dX3_loses_46 : decode cX3_loses 46 = .ok (.iconst (-1), 1) := by decide +kernel
theorem dX3_loses_47 : decode cX3_loses 47 = .ok (.if_icmp .ne 28, 3) := by decide +kernel
theorem dX3_loses_50 : decode cX3_loses 50 = .ok (.aload_n 0, 1) := by decide +kernel
theorem dX3_loses_51 : decode cX3_loses 51 = .ok (.invokevirtual 143, 3) := by decide +kernel
theorem dX3_loses_54 : decode cX3_loses 54 = .ok (.pop, 1) := by decide +kernel
theorem dX3_loses_55 : decode cX3_loses 55 = .ok (.aload_n 0, 1) := by decide +kernel
theorem dX3_loses_56 : decode cX3_loses 56 = .ok (.iload_n 1, 1) := by decide +kernel
theorem dX3_loses_57 : decode cX3_loses 57 = .ok (.iconst 1, 1) := by decide +kernel
theorem dX3_loses_58 : decode cX3_loses 58 = .ok (.invokevirtual 140, 3) := by decide +kernel
theorem dX3_loses_61 : decode cX3_loses 61 = .ok (.iload_n 3, 1) := by decide +kernel
theorem dX3_loses_62 : decode cX3_loses 62 = .ok (.if_icmp .ge 7, 3) := by decide +kernel
theorem dX3_loses_65 : decode cX3_loses 65 = .ok (.iload 5, 2) := by decide +kernel
theorem dX3_loses_67 : decode cX3_loses 67 = .ok (.istore 4, 2) := by decide +kernel
theorem dX3_loses_69 : decode cX3_loses 69 = .ok (.iinc 5 1, 3) := by decide +kernel
theorem dX3_loses_72 : decode cX3_loses 72 = .ok (.goto (-35), 3) := by decide +kernel
theorem dX3_loses_75 : decode cX3_loses 75 = .ok (.aload_n 0, 1) := by decide +kernel
theorem dX3_loses_76 : decode cX3_loses 76 = .ok (.aload_n 2, 1) := by decide +kernel
theorem dX3_loses_77 : decode cX3_loses 77 = .ok (.invokevirtual 127, 3) := by decide +kernel
theorem dX3_loses_80 : decode cX3_loses 80 = .ok (.iload 4, 2) := by decide +kernel
theorem dX3_loses_82 : decode cX3_loses 82 = .ok (.ireturn, 1) := by decide +kernel
set_option maxRecDepth 20000 in
theorem ggX3_advise_X3_isFarm : GoodIn wsX3_advise wsX3_isFarm := goodIn_r _ [8, 9, 10, 11, 7, 12, 116, 117, 118, 119, 120, 121, 122, 123, 124, 125, 126] (by decide +kernel) (by decide +kernel)
set_option maxRecDepth 20000 in
theorem gX3_advise_X3_isFarm : GoodIn wsX3_advise (wsV RX3 137 RX3 yX3_isFarm wsX3_isFarm) := goodIn_app (goodIn_of _ (by decide +kernel)) ggX3_advise_X3_isFarm
set_option maxRecDepth 20000 in
theorem ggX3_advise_X3_fail : GoodIn wsX3_advise wsX3_fail := goodIn_r _ [16, 1, 116, 117, 118, 119, 120, 121, 122, 123, 124, 125, 126] (by decide +kernel) (by decide +kernel)
set_option maxRecDepth 20000 in
theorem gX3_advise_X3_fail : GoodIn wsX3_advise (wsV RX3 57 RX3 yX3_fail wsX3_fail) := goodIn_app (goodIn_of _ (by decide +kernel)) ggX3_advise_X3_fail
set_option maxRecDepth 20000 in
theorem ggX3_advise_X3_isIn : GoodIn wsX3_advise wsX3_isIn := goodIn_r _ [12] (by decide +kernel) (by decide +kernel)
set_option maxRecDepth 20000 in
theorem gX3_advise_X3_isIn : GoodIn wsX3_advise (va_wsS RX3 45 yX3_isIn wsX3_isIn) := goodIn_app (goodIn_of _ (by decide +kernel)) ggX3_advise_X3_isIn
set_option maxRecDepth 20000 in
theorem ggX3_advise_X3_kept : GoodIn wsX3_advise wsX3_kept := goodIn_r _ [20, 21, 22, 23, 24, 25, 26, 27, 2, 28, 29, 116, 117, 118, 119, 120, 121, 122, 123, 124, 125, 126] (by decide +kernel) (by decide +kernel)
set_option maxRecDepth 20000 in
theorem gX3_advise_X3_kept : GoodIn wsX3_advise (wsV RX3 120 RX3 yX3_kept wsX3_kept) := goodIn_app (goodIn_of _ (by decide +kernel)) ggX3_advise_X3_kept
set_option maxRecDepth 20000 in
theorem ggX3_advise_X3_yearsOn : GoodIn wsX3_advise wsX3_yearsOn := goodIn_r _ [33, 34, 35, 36, 7, 37, 38, 29, 39, 3, 2, 40, 28, 41, 42, 43, 44, 45, 46, 47, 48, 49, 50, 51, 52, 22, 53, 54, 55, 56, 57, 58, 59, 60, 61, 62, 63, 64, 65, 66, 67, 68, 69, 70, 10, 11, 12, 71, 72, 73, 74, 75, 76, 77, 78, 79, 80, 81, 82, 83, 84, 85, 86, 87, 88, 89, 90, 91, 92, 93, 94, 95, 96, 97, 98, 116, 117, 118, 119, 120, 121, 122, 123, 124, 125, 126] (by decide +kernel) (by decide +kernel)
set_option maxRecDepth 20000 in
theorem gX3_advise_X3_yearsOn : GoodIn wsX3_advise (wsV RX3 147 RX3 yX3_yearsOn wsX3_yearsOn) := goodIn_app (goodIn_of _ (by decide +kernel)) ggX3_advise_X3_yearsOn
set_option maxRecDepth 20000 in
theorem ggX3_advise_X3_farmTold : GoodIn wsX3_advise wsX3_farmTold := goodIn_r _ [102, 39, 28, 3, 103, 104, 105, 7, 106, 107, 10, 11, 12, 116, 117, 118, 119, 120, 121, 122, 123, 124, 125, 126] (by decide +kernel) (by decide +kernel)
set_option maxRecDepth 20000 in
theorem gX3_advise_X3_farmTold : GoodIn wsX3_advise (wsV RX3 140 RX3 yX3_farmTold wsX3_farmTold) := goodIn_app (goodIn_of _ (by decide +kernel)) ggX3_advise_X3_farmTold
set_option maxRecDepth 20000 in
theorem ggX3_advise_X3_bringBack : GoodIn wsX3_advise wsX3_bringBack := goodIn_r _ [111, 22, 112, 113, 114, 115, 2, 28, 29, 79, 80, 81, 7, 82, 39, 45, 46, 47, 48, 116, 117, 118, 119, 120, 121, 122, 123, 124, 125, 126] (by decide +kernel) (by decide +kernel)
set_option maxRecDepth 20000 in
theorem gX3_advise_X3_bringBack : GoodIn wsX3_advise (wsV RX3 127 RX3 yX3_bringBack wsX3_bringBack) := goodIn_app (goodIn_of _ (by decide +kernel)) ggX3_advise_X3_bringBack
theorem dX3_advise_0 : decode cX3_advise 0 = .ok (.aload_n 0, 1) := by decide +kernel
theorem dX3_advise_1 : decode cX3_advise 1 = .ok (.iconst 0, 1) := by decide +kernel
theorem dX3_advise_2 : decode cX3_advise 2 = .ok (.putfield 41, 3) := by decide +kernel
theorem dX3_advise_5 : decode cX3_advise 5 = .ok (.aload_n 0, 1) := by decide +kernel
theorem dX3_advise_6 : decode cX3_advise 6 = .ok (.iload_n 1, 1) := by decide +kernel
theorem dX3_advise_7 : decode cX3_advise 7 = .ok (.invokevirtual 137, 3) := by decide +kernel
theorem dX3_advise_10 : decode cX3_advise 10 = .ok (.ifCond .ne 9, 3) := by decide +kernel
theorem dX3_advise_13 : decode cX3_advise 13 = .ok (.aload_n 0, 1) := by decide +kernel
theorem dX3_advise_14 : decode cX3_advise 14 = .ok (.iconst 1, 1) := by decide +kernel
theorem dX3_advise_15 : decode cX3_advise 15 = .ok (.invokevirtual 57, 3) := by decide +kernel
theorem dX3_advise_18 : decode cX3_advise 18 = .ok (.ireturn, 1) := by decide +kernel
theorem dX3_advise_19 : decode cX3_advise 19 = .ok (.iload_n 2, 1) := by decide +kernel
theorem dX3_advise_20 : decode cX3_advise 20 = .ok (.iconst 1, 1) := by decide +kernel
theorem dX3_advise_21 : decode cX3_advise 21 = .ok (.bipush 30, 2) := by decide +kernel
theorem dX3_advise_23 : decode cX3_advise 23 = .ok (.invokestatic 45, 3) := by decide +kernel
theorem dX3_advise_26 : decode cX3_advise 26 = .ok (.ifCond .ne 9, 3) := by decide +kernel
theorem dX3_advise_29 : decode cX3_advise 29 = .ok (.aload_n 0, 1) := by decide +kernel
theorem dX3_advise_30 : decode cX3_advise 30 = .ok (.iconst 2, 1) := by decide +kernel
theorem dX3_advise_31 : decode cX3_advise 31 = .ok (.invokevirtual 57, 3) := by decide +kernel
theorem dX3_advise_34 : decode cX3_advise 34 = .ok (.ireturn, 1) := by decide +kernel
theorem dX3_advise_35 : decode cX3_advise 35 = .ok (.aload_n 0, 1) := by decide +kernel
theorem dX3_advise_36 : decode cX3_advise 36 = .ok (.invokevirtual 120, 3) := by decide +kernel
theorem dX3_advise_39 : decode cX3_advise 39 = .ok (.astore_n 3, 1) := by decide +kernel
theorem dX3_advise_40 : decode cX3_advise 40 = .ok (.aload_n 0, 1) := by decide +kernel
theorem dX3_advise_41 : decode cX3_advise 41 = .ok (.iload_n 2, 1) := by decide +kernel
theorem dX3_advise_42 : decode cX3_advise 42 = .ok (.invokevirtual 147, 3) := by decide +kernel
theorem dX3_advise_45 : decode cX3_advise 45 = .ok (.pop, 1) := by decide +kernel
theorem dX3_advise_46 : decode cX3_advise 46 = .ok (.aload_n 0, 1) := by decide +kernel
theorem dX3_advise_47 : decode cX3_advise 47 = .ok (.iload_n 1, 1) := by decide +kernel
theorem dX3_advise_48 : decode cX3_advise 48 = .ok (.iconst 1, 1) := by decide +kernel
theorem dX3_advise_49 : decode cX3_advise 49 = .ok (.invokevirtual 140, 3) := by decide +kernel
theorem dX3_advise_52 : decode cX3_advise 52 = .ok (.istore 4, 2) := by decide +kernel
theorem dX3_advise_54 : decode cX3_advise 54 = .ok (.aload_n 0, 1) := by decide +kernel
theorem dX3_advise_55 : decode cX3_advise 55 = .ok (.aload_n 3, 1) := by decide +kernel
theorem dX3_advise_56 : decode cX3_advise 56 = .ok (.invokevirtual 127, 3) := by decide +kernel
theorem dX3_advise_59 : decode cX3_advise 59 = .ok (.iconst (-1), 1) := by decide +kernel
theorem dX3_advise_60 : decode cX3_advise 60 = .ok (.istore 5, 2) := by decide +kernel
theorem dX3_advise_62 : decode cX3_advise 62 = .ok (.iconst 0, 1) := by decide +kernel
theorem dX3_advise_63 : decode cX3_advise 63 = .ok (.istore 6, 2) := by decide +kernel
theorem dX3_advise_65 : decode cX3_advise 65 = .ok (.iload 6, 2) := by decide +kernel
theorem dX3_advise_67 : decode cX3_advise 67 = .ok (.sipush 384, 3) := by decide +kernel
theorem dX3_advise_70 : decode cX3_advise 70 = .ok (.if_icmp .ge 85, 3) := by decide +kernel
theorem dX3_advise_73 : decode cX3_advise 73 = .ok (.aload_n 0, 1) := by decide +kernel
theorem dX3_advise_74 : decode cX3_advise 74 = .ok (.getfield 29, 3) := by decide +kernel
theorem dX3_advise_77 : decode cX3_advise 77 = .ok (.iload 6, 2) := by decide +kernel
theorem dX3_advise_79 : decode cX3_advise 79 = .ok (.iaload, 1) := by decide +kernel
theorem dX3_advise_80 : decode cX3_advise 80 = .ok (.ifCond .eq 69, 3) := by decide +kernel
theorem dX3_advise_83 : decode cX3_advise 83 = .ok (.aload_n 0, 1) := by decide +kernel
theorem dX3_advise_84 : decode cX3_advise 84 = .ok (.getfield 13, 3) := by decide +kernel
theorem dX3_advise_87 : decode cX3_advise 87 = .ok (.iload 6, 2) := by decide +kernel
theorem dX3_advise_89 : decode cX3_advise 89 = .ok (.baload, 1) := by decide +kernel
theorem dX3_advise_90 : decode cX3_advise 90 = .ok (.ifCond .eq 6, 3) := by decide +kernel
theorem dX3_advise_93 : decode cX3_advise 93 = .ok (.goto 56, 3) := by decide +kernel
theorem dX3_advise_96 : decode cX3_advise 96 = .ok (.aload_n 0, 1) := by decide +kernel
theorem dX3_advise_97 : decode cX3_advise 97 = .ok (.getfield 13, 3) := by decide +kernel
theorem dX3_advise_100 : decode cX3_advise 100 = .ok (.iload 6, 2) := by decide +kernel
theorem dX3_advise_102 : decode cX3_advise 102 = .ok (.iconst 1, 1) := by decide +kernel
theorem dX3_advise_103 : decode cX3_advise 103 = .ok (.bastore, 1) := by decide +kernel
theorem dX3_advise_104 : decode cX3_advise 104 = .ok (.aload_n 0, 1) := by decide +kernel
theorem dX3_advise_105 : decode cX3_advise 105 = .ok (.iload_n 2, 1) := by decide +kernel
theorem dX3_advise_106 : decode cX3_advise 106 = .ok (.invokevirtual 147, 3) := by decide +kernel
theorem dX3_advise_109 : decode cX3_advise 109 = .ok (.pop, 1) := by decide +kernel
theorem dX3_advise_110 : decode cX3_advise 110 = .ok (.aload_n 0, 1) := by decide +kernel
theorem dX3_advise_111 : decode cX3_advise 111 = .ok (.iload_n 1, 1) := by decide +kernel
theorem dX3_advise_112 : decode cX3_advise 112 = .ok (.iconst 1, 1) := by decide +kernel
theorem dX3_advise_113 : decode cX3_advise 113 = .ok (.invokevirtual 140, 3) := by decide +kernel
theorem dX3_advise_116 : decode cX3_advise 116 = .ok (.istore 7, 2) := by decide +kernel
theorem dX3_advise_118 : decode cX3_advise 118 = .ok (.aload_n 0, 1) := by decide +kernel
theorem dX3_advise_119 : decode cX3_advise 119 = .ok (.getfield 13, 3) := by decide +kernel
theorem dX3_advise_122 : decode cX3_advise 122 = .ok (.iload 6, 2) := by decide +kernel
theorem dX3_advise_124 : decode cX3_advise 124 = .ok (.iconst 0, 1) := by decide +kernel
theorem dX3_advise_125 : decode cX3_advise 125 = .ok (.bastore, 1) := by decide +kernel
theorem dX3_advise_126 : decode cX3_advise 126 = .ok (.aload_n 0, 1) := by decide +kernel
theorem dX3_advise_127 : decode cX3_advise 127 = .ok (.aload_n 3, 1) := by decide +kernel
theorem dX3_advise_128 : decode cX3_advise 128 = .ok (.invokevirtual 127, 3) := by decide +kernel
theorem dX3_advise_131 : decode cX3_advise 131 = .ok (.iload 7, 2) := by decide +kernel
theorem dX3_advise_133 : decode cX3_advise 133 = .ok (.iload 4, 2) := by decide +kernel
theorem dX3_advise_135 : decode cX3_advise 135 = .ok (.if_icmp .gt 6, 3) := by decide +kernel
theorem dX3_advise_138 : decode cX3_advise 138 = .ok (.goto 11, 3) := by decide +kernel
theorem dX3_advise_141 : decode cX3_advise 141 = .ok (.iload 6, 2) := by decide +kernel
theorem dX3_advise_143 : decode cX3_advise 143 = .ok (.istore 5, 2) := by decide +kernel
theorem dX3_advise_145 : decode cX3_advise 145 = .ok (.iload 7, 2) := by decide +kernel
theorem dX3_advise_147 : decode cX3_advise 147 = .ok (.istore 4, 2) := by decide +kernel
theorem dX3_advise_149 : decode cX3_advise 149 = .ok (.iinc 6 1, 3) := by decide +kernel
theorem dX3_advise_152 : decode cX3_advise 152 = .ok (.goto (-87), 3) := by decide +kernel
theorem dX3_advise_155 : decode cX3_advise 155 = .ok (.iload 5, 2) := by decide +kernel
theorem dX3_advise_157 : decode cX3_advise 157 = .ok (.ireturn, 1) := by decide +kernel
set_option maxRecDepth 20000 in
theorem ggX3_winding_X3_length : GoodIn wsX3_winding wsX3_length := goodIn_r _ [7, 8, 9, 10, 11, 12, 13, 14, 15, 16, 17, 18, 19] (by decide +kernel) (by decide +kernel)
set_option maxRecDepth 20000 in
theorem gX3_winding_X3_length : GoodIn wsX3_winding (wsV RX3 49 RX3 yX3_length wsX3_length) := goodIn_app (goodIn_of _ (by decide +kernel)) ggX3_winding_X3_length
theorem dX3_winding_0 : decode cX3_winding 0 = .ok (.aload_n 0, 1) := by decide +kernel
theorem dX3_winding_1 : decode cX3_winding 1 = .ok (.iconst 0, 1) := by decide +kernel
theorem dX3_winding_2 : decode cX3_winding 2 = .ok (.putfield 41, 3) := by decide +kernel
theorem dX3_winding_5 : decode cX3_winding 5 = .ok (.aload_n 0, 1) := by decide +kernel
theorem dX3_winding_6 : decode cX3_winding 6 = .ok (.invokevirtual 49, 3) := by decide +kernel
theorem dX3_winding_9 : decode cX3_winding 9 = .ok (.i2d, 1) := by decide +kernel
theorem dX3_winding_10 : decode cX3_winding 10 = .ok (.ldc2_w 158, 3) := by decide +kernel
theorem dX3_winding_13 : decode cX3_winding 13 = .ok (.ddiv, 1) := by decide +kernel
theorem dX3_winding_14 : decode cX3_winding 14 = .ok (.dreturn, 1) := by decide +kernel
set_option maxRecDepth 20000 in
theorem ggX3_digest_X3_counted : GoodIn wsX3_digest wsX3_counted := goodIn_r _ [15, 16, 10, 7, 9, 17, 18, 19, 14, 20, 21, 22, 23, 24, 8, 25, 26, 27, 28, 29, 30, 31, 32, 5, 46, 47, 48, 49, 50, 51, 52, 53, 54, 55, 56] (by decide +kernel) (by decide +kernel)
set_option maxRecDepth 20000 in
theorem gX3_digest_X3_counted : GoodIn wsX3_digest (wsV RX3 150 RX3 yX3_counted wsX3_counted) := goodIn_app (goodIn_of _ (by decide +kernel)) ggX3_digest_X3_counted
set_option maxRecDepth 20000 in
theorem ggX3_digest_X3_length : GoodIn wsX3_digest wsX3_length := goodIn_r _ [20, 16, 46, 47, 48, 49, 50, 51, 52, 53, 54, 55, 56] (by decide +kernel) (by decide +kernel)
set_option maxRecDepth 20000 in
theorem gX3_digest_X3_length : GoodIn wsX3_digest (wsV RX3 49 RX3 yX3_length wsX3_length) := goodIn_app (goodIn_of _ (by decide +kernel)) ggX3_digest_X3_length
set_option maxRecDepth 20000 in
theorem ggX3_digest_X3_farmTold : GoodIn wsX3_digest wsX3_farmTold := goodIn_r _ [36, 37, 9, 8, 38, 39, 40, 14, 41, 42, 43, 44, 45, 46, 47, 48, 49, 50, 51, 52, 53, 54, 55, 56] (by decide +kernel) (by decide +kernel)
set_option maxRecDepth 20000 in
theorem gX3_digest_X3_farmTold : GoodIn wsX3_digest (wsV RX3 140 RX3 yX3_farmTold wsX3_farmTold) := goodIn_app (goodIn_of _ (by decide +kernel)) ggX3_digest_X3_farmTold
theorem dX3_digest_0 : decode cX3_digest 0 = .ok (.aload_n 0, 1) := by decide +kernel
theorem dX3_digest_1 : decode cX3_digest 1 = .ok (.iconst 0, 1) := by decide +kernel
theorem dX3_digest_2 : decode cX3_digest 2 = .ok (.putfield 41, 3) := by decide +kernel
theorem dX3_digest_5 : decode cX3_digest 5 = .ok (.ldc2_w 160, 3) := by decide +kernel
theorem dX3_digest_8 : decode cX3_digest 8 = .ok (.lstore_n 1, 1) := by decide +kernel
theorem dX3_digest_9 : decode cX3_digest 9 = .ok (.iconst 0, 1) := by decide +kernel
theorem dX3_digest_10 : decode cX3_digest 10 = .ok (.istore_n 3, 1) := by decide +kernel
theorem dX3_digest_11 : decode cX3_digest 11 = .ok (.iload_n 3, 1) := by decide +kernel
theorem dX3_digest_12 : decode cX3_digest 12 = .ok (.bipush 8, 2) := by decide +kernel
theorem dX3_digest_14 : decode cX3_digest 14 = .ok (.if_icmp .ge 22, 3) := by decide +kernel
theorem dX3_digest_17 : decode cX3_digest 17 = .ok (.lload_n 1, 1) := by decide +kernel
theorem dX3_digest_18 : decode cX3_digest 18 = .ok (.ldc2_w 162, 3) := by decide +kernel
theorem dX3_digest_21 : decode cX3_digest 21 = .ok (.lmul, 1) := by decide +kernel
theorem dX3_digest_22 : decode cX3_digest 22 = .ok (.aload_n 0, 1) := by decide +kernel
theorem dX3_digest_23 : decode cX3_digest 23 = .ok (.iload_n 3, 1) := by decide +kernel
theorem dX3_digest_24 : decode cX3_digest 24 = .ok (.invokevirtual 150, 3) := by decide +kernel
theorem dX3_digest_27 : decode cX3_digest 27 = .ok (.i2l, 1) := by decide +kernel
theorem dX3_digest_28 : decode cX3_digest 28 = .ok (.ladd, 1) := by decide +kernel
theorem dX3_digest_29 : decode cX3_digest 29 = .ok (.lstore_n 1, 1) := by decide +kernel
theorem dX3_digest_30 : decode cX3_digest 30 = .ok (.iinc 3 1, 3) := by decide +kernel
theorem dX3_digest_33 : decode cX3_digest 33 = .ok (.goto (-22), 3) := by decide +kernel
theorem dX3_digest_36 : decode cX3_digest 36 = .ok (.aload_n 0, 1) := by decide +kernel
theorem dX3_digest_37 : decode cX3_digest 37 = .ok (.getfield 17, 3) := by decide +kernel
theorem dX3_digest_40 : decode cX3_digest 40 = .ok (.astore_n 3, 1) := by decide +kernel
theorem dX3_digest_41 : decode cX3_digest 41 = .ok (.aload_n 3, 1) := by decide +kernel
theorem dX3_digest_42 : decode cX3_digest 42 = .ok (.arraylength, 1) := by decide +kernel
theorem dX3_digest_43 : decode cX3_digest 43 = .ok (.istore 4, 2) := by decide +kernel
theorem dX3_digest_45 : decode cX3_digest 45 = .ok (.iconst 0, 1) := by decide +kernel
theorem dX3_digest_46 : decode cX3_digest 46 = .ok (.istore 5, 2) := by decide +kernel
theorem dX3_digest_48 : decode cX3_digest 48 = .ok (.iload 5, 2) := by decide +kernel
theorem dX3_digest_50 : decode cX3_digest 50 = .ok (.iload 4, 2) := by decide +kernel
theorem dX3_digest_52 : decode cX3_digest 52 = .ok (.if_icmp .ge 25, 3) := by decide +kernel
theorem dX3_digest_55 : decode cX3_digest 55 = .ok (.aload_n 3, 1) := by decide +kernel
theorem dX3_digest_56 : decode cX3_digest 56 = .ok (.iload 5, 2) := by decide +kernel
theorem dX3_digest_58 : decode cX3_digest 58 = .ok (.iaload, 1) := by decide +kernel
theorem dX3_digest_59 : decode cX3_digest 59 = .ok (.istore 6, 2) := by decide +kernel
theorem dX3_digest_61 : decode cX3_digest 61 = .ok (.lload_n 1, 1) := by decide +kernel
theorem dX3_digest_62 : decode cX3_digest 62 = .ok (.ldc2_w 162, 3) := by decide +kernel
theorem dX3_digest_65 : decode cX3_digest 65 = .ok (.lmul, 1) := by decide +kernel
theorem dX3_digest_66 : decode cX3_digest 66 = .ok (.iload 6, 2) := by decide +kernel
theorem dX3_digest_68 : decode cX3_digest 68 = .ok (.i2l, 1) := by decide +kernel
theorem dX3_digest_69 : decode cX3_digest 69 = .ok (.ladd, 1) := by decide +kernel
theorem dX3_digest_70 : decode cX3_digest 70 = .ok (.lstore_n 1, 1) := by decide +kernel
theorem dX3_digest_71 : decode cX3_digest 71 = .ok (.iinc 5 1, 3) := by decide +kernel
theorem dX3_digest_74 : decode cX3_digest 74 = .ok (.goto (-26), 3) := by decide +kernel
theorem dX3_digest_77 : decode cX3_digest 77 = .ok (.iconst 0, 1) := by decide +kernel
theorem dX3_digest_78 : decode cX3_digest 78 = .ok (.istore_n 3, 1) := by decide +kernel
theorem dX3_digest_79 : decode cX3_digest 79 = .ok (.iload_n 3, 1) := by decide +kernel
theorem dX3_digest_80 : decode cX3_digest 80 = .ok (.aload_n 0, 1) := by decide +kernel
theorem dX3_digest_81 : decode cX3_digest 81 = .ok (.invokevirtual 49, 3) := by decide +kernel
theorem dX3_digest_84 : decode cX3_digest 84 = .ok (.if_icmp .ge 23, 3) := by decide +kernel
theorem dX3_digest_87 : decode cX3_digest 87 = .ok (.lload_n 1, 1) := by decide +kernel
theorem dX3_digest_88 : decode cX3_digest 88 = .ok (.ldc2_w 162, 3) := by decide +kernel
theorem dX3_digest_91 : decode cX3_digest 91 = .ok (.lmul, 1) := by decide +kernel
theorem dX3_digest_92 : decode cX3_digest 92 = .ok (.aload_n 0, 1) := by decide +kernel
theorem dX3_digest_93 : decode cX3_digest 93 = .ok (.getfield 23, 3) := by decide +kernel
theorem dX3_digest_96 : decode cX3_digest 96 = .ok (.iload_n 3, 1) := by decide +kernel
theorem dX3_digest_97 : decode cX3_digest 97 = .ok (.iaload, 1) := by decide +kernel
theorem dX3_digest_98 : decode cX3_digest 98 = .ok (.i2l, 1) := by decide +kernel
theorem dX3_digest_99 : decode cX3_digest 99 = .ok (.ladd, 1) := by decide +kernel
theorem dX3_digest_100 : decode cX3_digest 100 = .ok (.lstore_n 1, 1) := by decide +kernel
theorem dX3_digest_101 : decode cX3_digest 101 = .ok (.iinc 3 1, 3) := by decide +kernel
theorem dX3_digest_104 : decode cX3_digest 104 = .ok (.goto (-25), 3) := by decide +kernel
theorem dX3_digest_107 : decode cX3_digest 107 = .ok (.iconst 0, 1) := by decide +kernel
theorem dX3_digest_108 : decode cX3_digest 108 = .ok (.istore_n 3, 1) := by decide +kernel
theorem dX3_digest_109 : decode cX3_digest 109 = .ok (.iload_n 3, 1) := by decide +kernel
theorem dX3_digest_110 : decode cX3_digest 110 = .ok (.sipush 384, 3) := by decide +kernel
theorem dX3_digest_113 : decode cX3_digest 113 = .ok (.if_icmp .ge 67, 3) := by decide +kernel
theorem dX3_digest_116 : decode cX3_digest 116 = .ok (.lload_n 1, 1) := by decide +kernel
theorem dX3_digest_117 : decode cX3_digest 117 = .ok (.ldc2_w 162, 3) := by decide +kernel
theorem dX3_digest_120 : decode cX3_digest 120 = .ok (.lmul, 1) := by decide +kernel
theorem dX3_digest_121 : decode cX3_digest 121 = .ok (.aload_n 0, 1) := by decide +kernel
theorem dX3_digest_122 : decode cX3_digest 122 = .ok (.getfield 9, 3) := by decide +kernel
theorem dX3_digest_125 : decode cX3_digest 125 = .ok (.iload_n 3, 1) := by decide +kernel
theorem dX3_digest_126 : decode cX3_digest 126 = .ok (.iaload, 1) := by decide +kernel
theorem dX3_digest_127 : decode cX3_digest 127 = .ok (.i2l, 1) := by decide +kernel
theorem dX3_digest_128 : decode cX3_digest 128 = .ok (.ladd, 1) := by decide +kernel
theorem dX3_digest_129 : decode cX3_digest 129 = .ok (.ldc2_w 162, 3) := by decide +kernel
theorem dX3_digest_132 : decode cX3_digest 132 = .ok (.lmul, 1) := by decide +kernel
theorem dX3_digest_133 : decode cX3_digest 133 = .ok (.aload_n 0, 1) := by decide +kernel
theorem dX3_digest_134 : decode cX3_digest 134 = .ok (.getfield 29, 3) := by decide +kernel
theorem dX3_digest_137 : decode cX3_digest 137 = .ok (.iload_n 3, 1) := by decide +kernel
theorem dX3_digest_138 : decode cX3_digest 138 = .ok (.iaload, 1) := by decide +kernel
theorem dX3_digest_139 : decode cX3_digest 139 = .ok (.i2l, 1) := by decide +kernel
theorem dX3_digest_140 : decode cX3_digest 140 = .ok (.ladd, 1) := by decide +kernel
theorem dX3_digest_141 : decode cX3_digest 141 = .ok (.ldc2_w 162, 3) := by decide +kernel
theorem dX3_digest_144 : decode cX3_digest 144 = .ok (.lmul, 1) := by decide +kernel
theorem dX3_digest_145 : decode cX3_digest 145 = .ok (.aload_n 0, 1) := by decide +kernel
theorem dX3_digest_146 : decode cX3_digest 146 = .ok (.getfield 13, 3) := by decide +kernel
theorem dX3_digest_149 : decode cX3_digest 149 = .ok (.iload_n 3, 1) := by decide +kernel
theorem dX3_digest_150 : decode cX3_digest 150 = .ok (.baload, 1) := by decide +kernel
theorem dX3_digest_151 : decode cX3_digest 151 = .ok (.ifCond .eq 7, 3) := by decide +kernel
theorem dX3_digest_154 : decode cX3_digest 154 = .ok (.iconst 1, 1) := by decide +kernel
theorem dX3_digest_155 : decode cX3_digest 155 = .ok (.goto 4, 3) := by decide +kernel
theorem dX3_digest_158 : decode cX3_digest 158 = .ok (.iconst 0, 1) := by decide +kernel
theorem dX3_digest_159 : decode cX3_digest 159 = .ok (.i2l, 1) := by decide +kernel
theorem dX3_digest_160 : decode cX3_digest 160 = .ok (.ladd, 1) := by decide +kernel
theorem dX3_digest_161 : decode cX3_digest 161 = .ok (.ldc2_w 162, 3) := by decide +kernel
theorem dX3_digest_164 : decode cX3_digest 164 = .ok (.lmul, 1) := by decide +kernel
theorem dX3_digest_165 : decode cX3_digest 165 = .ok (.aload_n 0, 1) := by decide +kernel
theorem dX3_digest_166 : decode cX3_digest 166 = .ok (.getfield 32, 3) := by decide +kernel
theorem dX3_digest_169 : decode cX3_digest 169 = .ok (.iload_n 3, 1) := by decide +kernel
theorem dX3_digest_170 : decode cX3_digest 170 = .ok (.iaload, 1) := by decide +kernel
theorem dX3_digest_171 : decode cX3_digest 171 = .ok (.i2l, 1) := by decide +kernel
theorem dX3_digest_172 : decode cX3_digest 172 = .ok (.ladd, 1) := by decide +kernel
theorem dX3_digest_173 : decode cX3_digest 173 = .ok (.lstore_n 1, 1) := by decide +kernel
theorem dX3_digest_174 : decode cX3_digest 174 = .ok (.iinc 3 1, 3) := by decide +kernel
theorem dX3_digest_177 : decode cX3_digest 177 = .ok (.goto (-68), 3) := by decide +kernel
theorem dX3_digest_180 : decode cX3_digest 180 = .ok (.iconst 0, 1) := by decide +kernel
theorem dX3_digest_181 : decode cX3_digest 181 = .ok (.istore_n 3, 1) := by decide +kernel
theorem dX3_digest_182 : decode cX3_digest 182 = .ok (.iload_n 3, 1) := by decide +kernel
theorem dX3_digest_183 : decode cX3_digest 183 = .ok (.aload_n 0, 1) := by decide +kernel
theorem dX3_digest_184 : decode cX3_digest 184 = .ok (.getfield 64, 3) := by decide +kernel
theorem dX3_digest_187 : decode cX3_digest 187 = .ok (.if_icmp .ge 39, 3) := by decide +kernel
theorem dX3_digest_190 : decode cX3_digest 190 = .ok (.iconst 0, 1) := by decide +kernel
theorem dX3_digest_191 : decode cX3_digest 191 = .ok (.istore 4, 2) := by decide +kernel
theorem dX3_digest_193 : decode cX3_digest 193 = .ok (.iload 4, 2) := by decide +kernel
theorem dX3_digest_195 : decode cX3_digest 195 = .ok (.iconst 5, 1) := by decide +kernel
theorem dX3_digest_196 : decode cX3_digest 196 = .ok (.if_icmp .ge 24, 3) := by decide +kernel
theorem dX3_digest_199 : decode cX3_digest 199 = .ok (.lload_n 1, 1) := by decide +kernel
theorem dX3_digest_200 : decode cX3_digest 200 = .ok (.ldc2_w 162, 3) := by decide +kernel
theorem dX3_digest_203 : decode cX3_digest 203 = .ok (.lmul, 1) := by decide +kernel
theorem dX3_digest_204 : decode cX3_digest 204 = .ok (.aload_n 0, 1) := by decide +kernel
theorem dX3_digest_205 : decode cX3_digest 205 = .ok (.iload_n 3, 1) := by decide +kernel
theorem dX3_digest_206 : decode cX3_digest 206 = .ok (.iload 4, 2) := by decide +kernel
theorem dX3_digest_208 : decode cX3_digest 208 = .ok (.invokevirtual 140, 3) := by decide +kernel
theorem dX3_digest_211 : decode cX3_digest 211 = .ok (.i2l, 1) := by decide +kernel
theorem dX3_digest_212 : decode cX3_digest 212 = .ok (.ladd, 1) := by decide +kernel
theorem dX3_digest_213 : decode cX3_digest 213 = .ok (.lstore_n 1, 1) := by decide +kernel
theorem dX3_digest_214 : decode cX3_digest 214 = .ok (.iinc 4 1, 3) := by decide +kernel
theorem dX3_digest_217 : decode cX3_digest 217 = .ok (.goto (-24), 3) := by decide +kernel
theorem dX3_digest_220 : decode cX3_digest 220 = .ok (.iinc 3 1, 3) := by decide +kernel
theorem dX3_digest_223 : decode cX3_digest 223 = .ok (.goto (-41), 3) := by decide +kernel
theorem dX3_digest_226 : decode cX3_digest 226 = .ok (.lload_n 1, 1) := by decide +kernel
theorem dX3_digest_227 : decode cX3_digest 227 = .ok (.lreturn, 1) := by decide +kernel
