set_option maxRecDepth 20000 in
theorem ggX3_init_X3_place : GoodIn wsX3_init wsX3_place := goodIn_r _ [17, 11, 12, 18, 19, 20, 21, 22, 23, 24, 25, 26] (by decide +kernel) (by decide +kernel)
set_option maxRecDepth 20000 in
theorem gX3_init_X3_place : GoodIn wsX3_init (wsV RX3 32 RX3 yX3_place wsX3_place) := goodIn_app (goodIn_of _ (by decide +kernel)) ggX3_init_X3_place
theorem dX3_init_0 : decode cX3_init 0 = .ok (.aload_n 0, 1) := by decide +kernel
theorem dX3_init_1 : decode cX3_init 1 = .ok (.invokespecial 1, 3) := by decide +kernel
theorem dX3_init_4 : decode cX3_init 4 = .ok (.aload_n 0, 1) := by decide +kernel
theorem dX3_init_5 : decode cX3_init 5 = .ok (.sipush 384, 3) := by decide +kernel
theorem dX3_init_8 : decode cX3_init 8 = .ok (.newarray .int, 2) := by decide +kernel
theorem dX3_init_10 : decode cX3_init 10 = .ok (.putfield 7, 3) := by decide +kernel
theorem dX3_init_13 : decode cX3_init 13 = .ok (.aload_n 0, 1) := by decide +kernel
theorem dX3_init_14 : decode cX3_init 14 = .ok (.sipush 384, 3) := by decide +kernel
theorem dX3_init_17 : decode cX3_init 17 = .ok (.newarray .boolean, 2) := by decide +kernel
theorem dX3_init_19 : decode cX3_init 19 = .ok (.putfield 13, 3) := by decide +kernel
theorem dX3_init_22 : decode cX3_init 22 = .ok (.aload_n 0, 1) := by decide +kernel
theorem dX3_init_23 : decode cX3_init 23 = .ok (.sipush 384, 3) := by decide +kernel
theorem dX3_init_26 : decode cX3_init 26 = .ok (.newarray .int, 2) := by decide +kernel
theorem dX3_init_28 : decode cX3_init 28 = .ok (.putfield 17, 3) := by decide +kernel
theorem dX3_init_31 : decode cX3_init 31 = .ok (.aload_n 0, 1) := by decide +kernel
theorem dX3_init_32 : decode cX3_init 32 = .ok (.sipush 384, 3) := by decide +kernel
theorem dX3_init_35 : decode cX3_init 35 = .ok (.newarray .int, 2) := by decide +kernel
theorem dX3_init_37 : decode cX3_init 37 = .ok (.putfield 20, 3) := by decide +kernel
theorem dX3_init_40 : decode cX3_init 40 = .ok (.aload_n 0, 1) := by decide +kernel
theorem dX3_init_41 : decode cX3_init 41 = .ok (.bipush 12, 2) := by decide +kernel
theorem dX3_init_43 : decode cX3_init 43 = .ok (.newarray .int, 2) := by decide +kernel
theorem dX3_init_45 : decode cX3_init 45 = .ok (.dup, 1) := by decide +kernel
theorem dX3_init_46 : decode cX3_init 46 = .ok (.iconst 0, 1) := by decide +kernel
theorem dX3_init_47 : decode cX3_init 47 = .ok (.iconst 3, 1) := by decide +kernel
theorem dX3_init_48 : decode cX3_init 48 = .ok (.iastore, 1) := by decide +kernel
theorem dX3_init_49 : decode cX3_init 49 = .ok (.dup, 1) := by decide +kernel
theorem dX3_init_50 : decode cX3_init 50 = .ok (.iconst 1, 1) := by decide +kernel
theorem dX3_init_51 : decode cX3_init 51 = .ok (.iconst 3, 1) := by decide +kernel
theorem dX3_init_52 : decode cX3_init 52 = .ok (.iastore, 1) := by decide +kernel
theorem dX3_init_53 : decode cX3_init 53 = .ok (.dup, 1) := by decide +kernel
theorem dX3_init_54 : decode cX3_init 54 = .ok (.iconst 2, 1) := by decide +kernel
theorem dX3_init_55 : decode cX3_init 55 = .ok (.iconst 3, 1) := by decide +kernel
theorem dX3_init_56 : decode cX3_init 56 = .ok (.iastore, 1) := by decide +kernel
theorem dX3_init_57 : decode cX3_init 57 = .ok (.dup, 1) := by decide +kernel
theorem dX3_init_58 : decode cX3_init 58 = .ok (.iconst 3, 1) := by decide +kernel
theorem dX3_init_59 : decode cX3_init 59 = .ok (.iconst 3, 1) := by decide +kernel
theorem dX3_init_60 : decode cX3_init 60 = .ok (.iastore, 1) := by decide +kernel
theorem dX3_init_61 : decode cX3_init 61 = .ok (.dup, 1) := by decide +kernel
theorem dX3_init_62 : decode cX3_init 62 = .ok (.iconst 4, 1) := by decide +kernel
theorem dX3_init_63 : decode cX3_init 63 = .ok (.iconst 3, 1) := by decide +kernel
theorem dX3_init_64 : decode cX3_init 64 = .ok (.iastore, 1) := by decide +kernel
theorem dX3_init_65 : decode cX3_init 65 = .ok (.dup, 1) := by decide +kernel
theorem dX3_init_66 : decode cX3_init 66 = .ok (.iconst 5, 1) := by decide +kernel
theorem dX3_init_67 : decode cX3_init 67 = .ok (.iconst 3, 1) := by decide +kernel
theorem dX3_init_68 : decode cX3_init 68 = .ok (.iastore, 1) := by decide +kernel
theorem dX3_init_69 : decode cX3_init 69 = .ok (.dup, 1) := by decide +kernel
theorem dX3_init_70 : decode cX3_init 70 = .ok (.bipush 6, 2) := by decide +kernel
theorem dX3_init_72 : decode cX3_init 72 = .ok (.iconst 3, 1) := by decide +kernel
theorem dX3_init_73 : decode cX3_init 73 = .ok (.iastore, 1) := by decide +kernel
theorem dX3_init_74 : decode cX3_init 74 = .ok (.dup, 1) := by decide +kernel
theorem dX3_init_75 : decode cX3_init 75 = .ok (.bipush 7, 2) := by decide +kernel
theorem dX3_init_77 : decode cX3_init 77 = .ok (.iconst 3, 1) := by decide +kernel
theorem dX3_init_78 : decode cX3_init 78 = .ok (.iastore, 1) := by decide +kernel
theorem dX3_init_79 : decode cX3_init 79 = .ok (.dup, 1) := by decide +kernel
theorem dX3_init_80 : decode cX3_init 80 = .ok (.bipush 8, 2) := by decide +kernel
theorem dX3_init_82 : decode cX3_init 82 = .ok (.iconst 3, 1) := by decide +kernel
theorem dX3_init_83 : decode cX3_init 83 = .ok (.iastore, 1) := by decide +kernel
theorem dX3_init_84 : decode cX3_init 84 = .ok (.dup, 1) := by decide +kernel
theorem dX3_init_85 : decode cX3_init 85 = .ok (.bipush 9, 2) := by decide +kernel
theorem dX3_init_87 : decode cX3_init 87 = .ok (.iconst 3, 1) := by decide +kernel
theorem dX3_init_88 : decode cX3_init 88 = .ok (.iastore, 1) := by decide +kernel
theorem dX3_init_89 : decode cX3_init 89 = .ok (.dup, 1) := by decide +kernel
theorem dX3_init_90 : decode cX3_init 90 = .ok (.bipush 10, 2) := by decide +kernel
theorem dX3_init_92 : decode cX3_init 92 = .ok (.iconst 3, 1) := by decide +kernel
theorem dX3_init_93 : decode cX3_init 93 = .ok (.iastore, 1) := by decide +kernel
theorem dX3_init_94 : decode cX3_init 94 = .ok (.dup, 1) := by decide +kernel
theorem dX3_init_95 : decode cX3_init 95 = .ok (.bipush 11, 2) := by decide +kernel
theorem dX3_init_97 : decode cX3_init 97 = .ok (.iconst 3, 1) := by decide +kernel
theorem dX3_init_98 : decode cX3_init 98 = .ok (.iastore, 1) := by decide +kernel
theorem dX3_init_99 : decode cX3_init 99 = .ok (.putfield 23, 3) := by decide +kernel
theorem dX3_init_102 : decode cX3_init 102 = .ok (.aload_n 0, 1) := by decide +kernel
theorem dX3_init_103 : decode cX3_init 103 = .ok (.sipush 384, 3) := by decide +kernel
theorem dX3_init_106 : decode cX3_init 106 = .ok (.newarray .int, 2) := by decide +kernel
theorem dX3_init_108 : decode cX3_init 108 = .ok (.putfield 26, 3) := by decide +kernel
theorem dX3_init_111 : decode cX3_init 111 = .ok (.bipush 24, 2) := by decide +kernel
theorem dX3_init_113 : decode cX3_init 113 = .ok (.newarray .int, 2) := by decide +kernel
theorem dX3_init_115 : decode cX3_init 115 = .ok (.astore_n 1, 1) := by decide +kernel
theorem dX3_init_116 : decode cX3_init 116 = .ok (.iconst 0, 1) := by decide +kernel
theorem dX3_init_117 : decode cX3_init 117 = .ok (.istore_n 2, 1) := by decide +kernel
theorem dX3_init_118 : decode cX3_init 118 = .ok (.iload_n 2, 1) := by decide +kernel
theorem dX3_init_119 : decode cX3_init 119 = .ok (.bipush 24, 2) := by decide +kernel
theorem dX3_init_121 : decode cX3_init 121 = .ok (.if_icmp .ge 17, 3) := by decide +kernel
theorem dX3_init_124 : decode cX3_init 124 = .ok (.aload_n 1, 1) := by decide +kernel
theorem dX3_init_125 : decode cX3_init 125 = .ok (.iload_n 2, 1) := by decide +kernel
theorem dX3_init_126 : decode cX3_init 126 = .ok (.sipush 192, 3) := by decide +kernel
theorem dX3_init_129 : decode cX3_init 129 = .ok (.iload_n 2, 1) := by decide +kernel
theorem dX3_init_130 : decode cX3_init 130 = .ok (.iadd, 1) := by decide +kernel
theorem dX3_init_131 : decode cX3_init 131 = .ok (.iastore, 1) := by decide +kernel
theorem dX3_init_132 : decode cX3_init 132 = .ok (.iinc 2 1, 3) := by decide +kernel
theorem dX3_init_135 : decode cX3_init 135 = .ok (.goto (-17), 3) := by decide +kernel
theorem dX3_init_138 : decode cX3_init 138 = .ok (.iconst 0, 1) := by decide +kernel
theorem dX3_init_139 : decode cX3_init 139 = .ok (.istore_n 2, 1) := by decide +kernel
theorem dX3_init_140 : decode cX3_init 140 = .ok (.iload_n 2, 1) := by decide +kernel
theorem dX3_init_141 : decode cX3_init 141 = .ok (.sipush 384, 3) := by decide +kernel
theorem dX3_init_144 : decode cX3_init 144 = .ok (.if_icmp .ge 16, 3) := by decide +kernel
theorem dX3_init_147 : decode cX3_init 147 = .ok (.aload_n 0, 1) := by decide +kernel
theorem dX3_init_148 : decode cX3_init 148 = .ok (.getfield 7, 3) := by decide +kernel
theorem dX3_init_151 : decode cX3_init 151 = .ok (.iload_n 2, 1) := by decide +kernel
theorem dX3_init_152 : decode cX3_init 152 = .ok (.iconst 3, 1) := by decide +kernel
theorem dX3_init_153 : decode cX3_init 153 = .ok (.iastore, 1) := by decide +kernel
theorem dX3_init_154 : decode cX3_init 154 = .ok (.iinc 2 1, 3) := by decide +kernel
theorem dX3_init_157 : decode cX3_init 157 = .ok (.goto (-17), 3) := by decide +kernel
theorem dX3_init_160 : decode cX3_init 160 = .ok (.aload_n 0, 1) := by decide +kernel
theorem dX3_init_161 : decode cX3_init 161 = .ok (.aload_n 1, 1) := by decide +kernel
theorem dX3_init_162 : decode cX3_init 162 = .ok (.putfield 29, 3) := by decide +kernel
theorem dX3_init_165 : decode cX3_init 165 = .ok (.aload_n 0, 1) := by decide +kernel
theorem dX3_init_166 : decode cX3_init 166 = .ok (.invokevirtual 32, 3) := by decide +kernel
theorem dX3_init_169 : decode cX3_init 169 = .ok (.return_, 1) := by decide +kernel
theorem dX3_place_0 : decode cX3_place 0 = .ok (.iconst 0, 1) := by decide +kernel
theorem dX3_place_1 : decode cX3_place 1 = .ok (.istore_n 1, 1) := by decide +kernel
theorem dX3_place_2 : decode cX3_place 2 = .ok (.iload_n 1, 1) := by decide +kernel
theorem dX3_place_3 : decode cX3_place 3 = .ok (.sipush 384, 3) := by decide +kernel
theorem dX3_place_6 : decode cX3_place 6 = .ok (.if_icmp .ge 16, 3) := by decide +kernel
theorem dX3_place_9 : decode cX3_place 9 = .ok (.aload_n 0, 1) := by decide +kernel
theorem dX3_place_10 : decode cX3_place 10 = .ok (.getfield 26, 3) := by decide +kernel
theorem dX3_place_13 : decode cX3_place 13 = .ok (.iload_n 1, 1) := by decide +kernel
theorem dX3_place_14 : decode cX3_place 14 = .ok (.iconst 0, 1) := by decide +kernel
theorem dX3_place_15 : decode cX3_place 15 = .ok (.iastore, 1) := by decide +kernel
theorem dX3_place_16 : decode cX3_place 16 = .ok (.iinc 1 1, 3) := by decide +kernel
theorem dX3_place_19 : decode cX3_place 19 = .ok (.goto (-17), 3) := by decide +kernel
theorem dX3_place_22 : decode cX3_place 22 = .ok (.iconst 0, 1) := by decide +kernel
theorem dX3_place_23 : decode cX3_place 23 = .ok (.istore_n 1, 1) := by decide +kernel
theorem dX3_place_24 : decode cX3_place 24 = .ok (.iload_n 1, 1) := by decide +kernel
theorem dX3_place_25 : decode cX3_place 25 = .ok (.aload_n 0, 1) := by decide +kernel
theorem dX3_place_26 : decode cX3_place 26 = .ok (.getfield 29, 3) := by decide +kernel
theorem dX3_place_29 : decode cX3_place 29 = .ok (.arraylength, 1) := by decide +kernel
theorem dX3_place_30 : decode cX3_place 30 = .ok (.if_icmp .ge 23, 3) := by decide +kernel
theorem dX3_place_33 : decode cX3_place 33 = .ok (.aload_n 0, 1) := by decide +kernel
theorem dX3_place_34 : decode cX3_place 34 = .ok (.getfield 26, 3) := by decide +kernel
theorem dX3_place_37 : decode cX3_place 37 = .ok (.aload_n 0, 1) := by decide +kernel
theorem dX3_place_38 : decode cX3_place 38 = .ok (.getfield 29, 3) := by decide +kernel
theorem dX3_place_41 : decode cX3_place 41 = .ok (.iload_n 1, 1) := by decide +kernel
theorem dX3_place_42 : decode cX3_place 42 = .ok (.iaload, 1) := by decide +kernel
theorem dX3_place_43 : decode cX3_place 43 = .ok (.iload_n 1, 1) := by decide +kernel
theorem dX3_place_44 : decode cX3_place 44 = .ok (.iconst 1, 1) := by decide +kernel
theorem dX3_place_45 : decode cX3_place 45 = .ok (.iadd, 1) := by decide +kernel
theorem dX3_place_46 : decode cX3_place 46 = .ok (.iastore, 1) := by decide +kernel
theorem dX3_place_47 : decode cX3_place 47 = .ok (.iinc 1 1, 3) := by decide +kernel
theorem dX3_place_50 : decode cX3_place 50 = .ok (.goto (-26), 3) := by decide +kernel
theorem dX3_place_53 : decode cX3_place 53 = .ok (.return_, 1) := by decide +kernel
theorem dX3_to_0 : decode cX3_to 0 = .ok (.iload_n 0, 1) := by decide +kernel
theorem dX3_to_1 : decode cX3_to 1 = .ok (.bipush 24, 2) := by decide +kernel
theorem dX3_to_3 : decode cX3_to 3 = .ok (.irem, 1) := by decide +kernel
theorem dX3_to_4 : decode cX3_to 4 = .ok (.istore_n 2, 1) := by decide +kernel
theorem dX3_to_5 : decode cX3_to 5 = .ok (.iload_n 1, 1) := by decide +kernel
theorem dX3_to_6 : decode cX3_to 6 = .ok (.tableswitch 71 0 2 #[26, 41, 55], 26) := by decide +kernel
theorem dX3_to_32 : decode cX3_to 32 = .ok (.iload_n 0, 1) := by decide +kernel
theorem dX3_to_33 : decode cX3_to 33 = .ok (.bipush 24, 2) := by decide +kernel
theorem dX3_to_35 : decode cX3_to 35 = .ok (.if_icmp .ge 7, 3) := by decide +kernel
theorem dX3_to_38 : decode cX3_to 38 = .ok (.iconst (-1), 1) := by decide +kernel
theorem dX3_to_39 : decode cX3_to 39 = .ok (.goto 7, 3) := by decide +kernel
theorem dX3_to_42 : decode cX3_to 42 = .ok (.iload_n 0, 1) := by decide +kernel
theorem dX3_to_43 : decode cX3_to 43 = .ok (.bipush 24, 2) := by decide +kernel
theorem dX3_to_45 : decode cX3_to 45 = .ok (.isub, 1) := by decide +kernel
theorem dX3_to_46 : decode cX3_to 46 = .ok (.ireturn, 1) := by decide +kernel
theorem dX3_to_47 : decode cX3_to 47 = .ok (.iload_n 2, 1) := by decide +kernel
theorem dX3_to_48 : decode cX3_to 48 = .ok (.bipush 23, 2) := by decide +kernel
theorem dX3_to_50 : decode cX3_to 50 = .ok (.if_icmp .ne 7, 3) := by decide +kernel
theorem dX3_to_53 : decode cX3_to 53 = .ok (.iconst (-1), 1) := by decide +kernel
theorem dX3_to_54 : decode cX3_to 54 = .ok (.goto 6, 3) := by decide +kernel
theorem dX3_to_57 : decode cX3_to 57 = .ok (.iload_n 0, 1) := by decide +kernel
theorem dX3_to_58 : decode cX3_to 58 = .ok (.iconst 1, 1) := by decide +kernel
theorem dX3_to_59 : decode cX3_to 59 = .ok (.iadd, 1) := by decide +kernel
theorem dX3_to_60 : decode cX3_to 60 = .ok (.ireturn, 1) := by decide +kernel
theorem dX3_to_61 : decode cX3_to 61 = .ok (.iload_n 0, 1) := by decide +kernel
theorem dX3_to_62 : decode cX3_to 62 = .ok (.sipush 360, 3) := by decide +kernel
theorem dX3_to_65 : decode cX3_to 65 = .ok (.if_icmp .lt 7, 3) := by decide +kernel
theorem dX3_to_68 : decode cX3_to 68 = .ok (.iconst (-1), 1) := by decide +kernel
theorem dX3_to_69 : decode cX3_to 69 = .ok (.goto 7, 3) := by decide +kernel
theorem dX3_to_72 : decode cX3_to 72 = .ok (.iload_n 0, 1) := by decide +kernel
theorem dX3_to_73 : decode cX3_to 73 = .ok (.bipush 24, 2) := by decide +kernel
theorem dX3_to_75 : decode cX3_to 75 = .ok (.iadd, 1) := by decide +kernel
theorem dX3_to_76 : decode cX3_to 76 = .ok (.ireturn, 1) := by decide +kernel
theorem dX3_to_77 : decode cX3_to 77 = .ok (.iload_n 2, 1) := by decide +kernel
theorem dX3_to_78 : decode cX3_to 78 = .ok (.ifCond .ne 7, 3) := by decide +kernel
theorem dX3_to_81 : decode cX3_to 81 = .ok (.iconst (-1), 1) := by decide +kernel
theorem dX3_to_82 : decode cX3_to 82 = .ok (.goto 6, 3) := by decide +kernel
theorem dX3_to_85 : decode cX3_to 85 = .ok (.iload_n 0, 1) := by decide +kernel
theorem dX3_to_86 : decode cX3_to 86 = .ok (.iconst 1, 1) := by decide +kernel
theorem dX3_to_87 : decode cX3_to 87 = .ok (.isub, 1) := by decide +kernel
theorem dX3_to_88 : decode cX3_to 88 = .ok (.ireturn, 1) := by decide +kernel
set_option maxRecDepth 20000 in
theorem ggX3_direction_X3_to : GoodIn wsX3_direction wsX3_to := goodIn_r _ [5] (by decide +kernel) (by decide +kernel)
set_option maxRecDepth 20000 in
theorem gX3_direction_X3_to : GoodIn wsX3_direction (va_wsS RX3 50 yX3_to wsX3_to) := goodIn_app (goodIn_of _ (by decide +kernel)) ggX3_direction_X3_to
theorem dX3_direction_0 : decode cX3_direction 0 = .ok (.iconst 0, 1) := by decide +kernel
theorem dX3_direction_1 : decode cX3_direction 1 = .ok (.istore_n 2, 1) := by decide +kernel
theorem dX3_direction_2 : decode cX3_direction 2 = .ok (.iload_n 2, 1) := by decide +kernel
theorem dX3_direction_3 : decode cX3_direction 3 = .ok (.iconst 4, 1) := by decide +kernel
theorem dX3_direction_4 : decode cX3_direction 4 = .ok (.if_icmp .ge 32, 3) := by decide +kernel
theorem dX3_direction_7 : decode cX3_direction 7 = .ok (.aload_n 0, 1) := by decide +kernel
theorem dX3_direction_8 : decode cX3_direction 8 = .ok (.getfield 29, 3) := by decide +kernel
theorem dX3_direction_11 : decode cX3_direction 11 = .ok (.iload_n 1, 1) := by decide +kernel
theorem dX3_direction_12 : decode cX3_direction 12 = .ok (.iaload, 1) := by decide +kernel
theorem dX3_direction_13 : decode cX3_direction 13 = .ok (.iload_n 2, 1) := by decide +kernel
theorem dX3_direction_14 : decode cX3_direction 14 = .ok (.invokestatic 50, 3) := by decide +kernel
theorem dX3_direction_17 : decode cX3_direction 17 = .ok (.aload_n 0, 1) := by decide +kernel
theorem dX3_direction_18 : decode cX3_direction 18 = .ok (.getfield 29, 3) := by decide +kernel
theorem dX3_direction_21 : decode cX3_direction 21 = .ok (.iload_n 1, 1) := by decide +kernel
theorem dX3_direction_22 : decode cX3_direction 22 = .ok (.iconst 1, 1) := by decide +kernel
theorem dX3_direction_23 : decode cX3_direction 23 = .ok (.iadd, 1) := by decide +kernel
theorem dX3_direction_24 : decode cX3_direction 24 = .ok (.iaload, 1) := by decide +kernel
theorem dX3_direction_25 : decode cX3_direction 25 = .ok (.if_icmp .ne 5, 3) := by decide +kernel
theorem dX3_direction_28 : decode cX3_direction 28 = .ok (.iload_n 2, 1) := by decide +kernel
theorem dX3_direction_29 : decode cX3_direction 29 = .ok (.ireturn, 1) := by decide +kernel
theorem dX3_direction_30 : decode cX3_direction 30 = .ok (.iinc 2 1, 3) := by decide +kernel
theorem dX3_direction_33 : decode cX3_direction 33 = .ok (.goto (-31), 3) := by decide +kernel
theorem dX3_direction_36 : decode cX3_direction 36 = .ok (.iconst (-1), 1) := by decide +kernel
theorem dX3_direction_37 : decode cX3_direction 37 = .ok (.ireturn, 1) := by decide +kernel
theorem dX3_at_0 : decode cX3_at 0 = .ok (.aload_n 0, 1) := by decide +kernel
theorem dX3_at_1 : decode cX3_at 1 = .ok (.getfield 26, 3) := by decide +kernel
theorem dX3_at_4 : decode cX3_at 4 = .ok (.iload_n 1, 1) := by decide +kernel
theorem dX3_at_5 : decode cX3_at 5 = .ok (.iaload, 1) := by decide +kernel
theorem dX3_at_6 : decode cX3_at 6 = .ok (.iconst 1, 1) := by decide +kernel
theorem dX3_at_7 : decode cX3_at 7 = .ok (.isub, 1) := by decide +kernel
theorem dX3_at_8 : decode cX3_at 8 = .ok (.ireturn, 1) := by decide +kernel
set_option maxRecDepth 20000 in
theorem ggX3_isStraight_X3_direction : GoodIn wsX3_isStraight wsX3_direction := goodIn_r _ [6, 1, 7, 8, 5, 9, 10, 11, 12, 13, 14, 15, 16, 17, 18] (by decide +kernel) (by decide +kernel)
set_option maxRecDepth 20000 in
theorem gX3_isStraight_X3_direction : GoodIn wsX3_isStraight (wsV RX3 54 RX3 yX3_direction wsX3_direction) := goodIn_app (goodIn_of _ (by decide +kernel)) ggX3_isStraight_X3_direction
theorem dX3_isStraight_0 : decode cX3_isStraight 0 = .ok (.iload_n 1, 1) := by decide +kernel
theorem dX3_isStraight_1 : decode cX3_isStraight 1 = .ok (.ifCond .le 33, 3) := by decide +kernel
theorem dX3_isStraight_4 : decode cX3_isStraight 4 = .ok (.iload_n 1, 1) := by decide +kernel
theorem dX3_isStraight_5 : decode cX3_isStraight 5 = .ok (.iconst 1, 1) := by decide +kernel
theorem dX3_isStraight_6 : decode cX3_isStraight 6 = .ok (.iadd, 1) := by decide +kernel
theorem dX3_isStraight_7 : decode cX3_isStraight 7 = .ok (.aload_n 0, 1) := by decide +kernel
theorem dX3_isStraight_8 : decode cX3_isStraight 8 = .ok (.getfield 29, 3) := by decide +kernel
theorem dX3_isStraight_11 : decode cX3_isStraight 11 = .ok (.arraylength, 1) := by decide +kernel
theorem dX3_isStraight_12 : decode cX3_isStraight 12 = .ok (.if_icmp .ge 22, 3) := by decide +kernel
theorem dX3_isStraight_15 : decode cX3_isStraight 15 = .ok (.aload_n 0, 1) := by decide +kernel
theorem dX3_isStraight_16 : decode cX3_isStraight 16 = .ok (.iload_n 1, 1) := by decide +kernel
theorem dX3_isStraight_17 : decode cX3_isStraight 17 = .ok (.invokevirtual 54, 3) := by decide +kernel
theorem dX3_isStraight_20 : decode cX3_isStraight 20 = .ok (.aload_n 0, 1) := by decide +kernel
theorem dX3_isStraight_21 : decode cX3_isStraight 21 = .ok (.iload_n 1, 1) := by decide +kernel
theorem dX3_isStraight_22 : decode cX3_isStraight 22 = .ok (.iconst 1, 1) := by decide +kernel
theorem dX3_isStraight_23 : decode cX3_isStraight 23 = .ok (.isub, 1) := by decide +kernel
theorem dX3_isStraight_24 : decode cX3_isStraight 24 = .ok (.invokevirtual 54, 3) := by decide +kernel
theorem dX3_isStraight_27 : decode cX3_isStraight 27 = .ok (.if_icmp .ne 7, 3) := by decide +kernel
theorem dX3_isStraight_30 : decode cX3_isStraight 30 = .ok (.iconst 1, 1) := by decide +kernel
theorem dX3_isStraight_31 : decode cX3_isStraight 31 = .ok (.goto 4, 3) := by decide +kernel
theorem dX3_isStraight_34 : decode cX3_isStraight 34 = .ok (.iconst 0, 1) := by decide +kernel
theorem dX3_isStraight_35 : decode cX3_isStraight 35 = .ok (.ireturn, 1) := by decide +kernel
set_option maxRecDepth 20000 in
theorem ggX3_side_X3_isStraight : GoodIn wsX3_side wsX3_isStraight := goodIn_r _ [5, 6, 7, 8, 9, 4, 10, 11, 12, 13, 14, 15, 16, 17, 18, 19, 20, 21, 22] (by decide +kernel) (by decide +kernel)
set_option maxRecDepth 20000 in
theorem gX3_side_X3_isStraight : GoodIn wsX3_side (wsV RX3 58 RX3 yX3_isStraight wsX3_isStraight) := goodIn_app (goodIn_of _ (by decide +kernel)) ggX3_side_X3_isStraight
set_option maxRecDepth 20000 in
theorem ggX3_side_X3_direction : GoodIn wsX3_side wsX3_direction := goodIn_r _ [10, 6, 11, 12, 4, 13, 14, 15, 16, 17, 18, 19, 20, 21, 22] (by decide +kernel) (by decide +kernel)
set_option maxRecDepth 20000 in
theorem gX3_side_X3_direction : GoodIn wsX3_side (wsV RX3 54 RX3 yX3_direction wsX3_direction) := goodIn_app (goodIn_of _ (by decide +kernel)) ggX3_side_X3_direction
theorem dX3_side_0 : decode cX3_side 0 = .ok (.aload_n 0, 1) := by decide +kernel
theorem dX3_side_1 : decode cX3_side 1 = .ok (.iload_n 1, 1) := by decide +kernel
theorem dX3_side_2 : decode cX3_side 2 = .ok (.invokevirtual 58, 3) := by decide +kernel
theorem dX3_side_5 : decode cX3_side 5 = .ok (.ifCond .ne 5, 3) := by decide +kernel
theorem dX3_side_8 : decode cX3_side 8 = .ok (.iconst (-1), 1) := by decide +kernel
theorem dX3_side_9 : decode cX3_side 9 = .ok (.ireturn, 1) := by decide +kernel
theorem dX3_side_10 : decode cX3_side 10 = .ok (.iload_n 1, 1) := by decide +kernel
theorem dX3_side_11 : decode cX3_side 11 = .ok (.iconst 1, 1) := by decide +kernel
theorem dX3_side_12 : decode cX3_side 12 = .ok (.isub, 1) := by decide +kernel
theorem dX3_side_13 : decode cX3_side 13 = .ok (.istore_n 2, 1) := by decide +kernel
theorem dX3_side_14 : decode cX3_side 14 = .ok (.iload_n 2, 1) := by decide +kernel
theorem dX3_side_15 : decode cX3_side 15 = .ok (.ifCond .le 24, 3) := by decide +kernel
theorem dX3_side_18 : decode cX3_side 18 = .ok (.aload_n 0, 1) := by decide +kernel
theorem dX3_side_19 : decode cX3_side 19 = .ok (.iload_n 2, 1) := by decide +kernel
theorem dX3_side_20 : decode cX3_side 20 = .ok (.invokevirtual 54, 3) := by decide +kernel
theorem dX3_side_23 : decode cX3_side 23 = .ok (.aload_n 0, 1) := by decide +kernel
theorem dX3_side_24 : decode cX3_side 24 = .ok (.iload_n 2, 1) := by decide +kernel
theorem dX3_side_25 : decode cX3_side 25 = .ok (.iconst 1, 1) := by decide +kernel
theorem dX3_side_26 : decode cX3_side 26 = .ok (.isub, 1) := by decide +kernel
theorem dX3_side_27 : decode cX3_side 27 = .ok (.invokevirtual 54, 3) := by decide +kernel
theorem dX3_side_30 : decode cX3_side 30 = .ok (.if_icmp .ne 9, 3) := by decide +kernel
theorem dX3_side_33 : decode cX3_side 33 = .ok (.iinc 2 (-1), 3) := by decide +kernel
theorem dX3_side_36 : decode cX3_side 36 = .ok (.goto (-22), 3) := by decide +kernel
theorem dX3_side_39 : decode cX3_side 39 = .ok (.iload_n 2, 1) := by decide +kernel
theorem dX3_side_40 : decode cX3_side 40 = .ok (.ifCond .le 20, 3) := by decide +kernel
theorem dX3_side_43 : decode cX3_side 43 = .ok (.iload_n 1, 1) := by decide +kernel
theorem dX3_side_44 : decode cX3_side 44 = .ok (.iload_n 2, 1) := by decide +kernel
theorem dX3_side_45 : decode cX3_side 45 = .ok (.isub, 1) := by decide +kernel
theorem dX3_side_46 : decode cX3_side 46 = .ok (.iconst 5, 1) := by decide +kernel
theorem dX3_side_47 : decode cX3_side 47 = .ok (.if_icmp .ge 13, 3) := by decide +kernel
theorem dX3_side_50 : decode cX3_side 50 = .ok (.aload_n 0, 1) := by decide +kernel
theorem dX3_side_51 : decode cX3_side 51 = .ok (.iload_n 2, 1) := by decide +kernel
theorem dX3_side_52 : decode cX3_side 52 = .ok (.iconst 1, 1) := by decide +kernel
theorem dX3_side_53 : decode cX3_side 53 = .ok (.isub, 1) := by decide +kernel
theorem dX3_side_54 : decode cX3_side 54 = .ok (.invokevirtual 54, 3) := by decide +kernel
theorem dX3_side_57 : decode cX3_side 57 = .ok (.goto 4, 3) := by decide +kernel
theorem dX3_side_60 : decode cX3_side 60 = .ok (.iconst (-1), 1) := by decide +kernel
theorem dX3_side_61 : decode cX3_side 61 = .ok (.ireturn, 1) := by decide +kernel
set_option maxRecDepth 20000 in
theorem ggX3_can_X3_isStraight : GoodIn wsX3_can wsX3_isStraight := goodIn_r _ [11, 5, 12, 13, 14, 10, 15, 16, 17, 18, 24, 25, 26, 27, 28, 29, 30, 31, 32] (by decide +kernel) (by decide +kernel)
set_option maxRecDepth 20000 in
theorem gX3_can_X3_isStraight : GoodIn wsX3_can (wsV RX3 58 RX3 yX3_isStraight wsX3_isStraight) := goodIn_app (goodIn_of _ (by decide +kernel)) ggX3_can_X3_isStraight
set_option maxRecDepth 20000 in
theorem ggX3_can_X3_direction : GoodIn wsX3_can wsX3_direction := goodIn_r _ [15, 5, 16, 17, 10, 18, 24, 25, 26, 27, 28, 29, 30, 31, 32] (by decide +kernel) (by decide +kernel)
set_option maxRecDepth 20000 in
theorem gX3_can_X3_direction : GoodIn wsX3_can (wsV RX3 54 RX3 yX3_direction wsX3_direction) := goodIn_app (goodIn_of _ (by decide +kernel)) ggX3_can_X3_direction
set_option maxRecDepth 20000 in
theorem ggX3_can_X3_to : GoodIn wsX3_can wsX3_to := goodIn_r _ [18] (by decide +kernel) (by decide +kernel)
set_option maxRecDepth 20000 in
theorem gX3_can_X3_to : GoodIn wsX3_can (va_wsS RX3 50 yX3_to wsX3_to) := goodIn_app (goodIn_of _ (by decide +kernel)) ggX3_can_X3_to
set_option maxRecDepth 20000 in
theorem ggX3_can_X3_at : GoodIn wsX3_can wsX3_at := goodIn_r _ [22, 23, 24, 25, 26, 27, 28, 29, 30, 31, 32] (by decide +kernel) (by decide +kernel)
set_option maxRecDepth 20000 in
theorem gX3_can_X3_at : GoodIn wsX3_can (wsV RX3 70 RX3 yX3_at wsX3_at) := goodIn_app (goodIn_of _ (by decide +kernel)) ggX3_can_X3_at
theorem dX3_can_0 : decode cX3_can 0 = .ok (.aload_n 0, 1) := by decide +kernel
theorem dX3_can_1 : decode cX3_can 1 = .ok (.iload_n 1, 1) := by decide +kernel
theorem dX3_can_2 : decode cX3_can 2 = .ok (.invokevirtual 58, 3) := by decide +kernel
theorem dX3_can_5 : decode cX3_can 5 = .ok (.ifCond .eq 29, 3) := by decide +kernel
theorem dX3_can_8 : decode cX3_can 8 = .ok (.iload_n 2, 1) := by decide +kernel
theorem dX3_can_9 : decode cX3_can 9 = .ok (.aload_n 0, 1) := by decide +kernel
theorem dX3_can_10 : decode cX3_can 10 = .ok (.iload_n 1, 1) := by decide +kernel
theorem dX3_can_11 : decode cX3_can 11 = .ok (.invokevirtual 54, 3) := by decide +kernel
theorem dX3_can_14 : decode cX3_can 14 = .ok (.isub, 1) := by decide +kernel
theorem dX3_can_15 : decode cX3_can 15 = .ok (.invokestatic 65, 3) := by decide +kernel
theorem dX3_can_18 : decode cX3_can 18 = .ok (.iconst 2, 1) := by decide +kernel
theorem dX3_can_19 : decode cX3_can 19 = .ok (.irem, 1) := by decide +kernel
theorem dX3_can_20 : decode cX3_can 20 = .ok (.ifCond .eq 14, 3) := by decide +kernel
theorem dX3_can_23 : decode cX3_can 23 = .ok (.aload_n 0, 1) := by decide +kernel
theorem dX3_can_24 : decode cX3_can 24 = .ok (.getfield 29, 3) := by decide +kernel
theorem dX3_can_27 : decode cX3_can 27 = .ok (.arraylength, 1) := by decide +kernel
theorem dX3_can_28 : decode cX3_can 28 = .ok (.sipush 148, 3) := by decide +kernel
theorem dX3_can_31 : decode cX3_can 31 = .ok (.if_icmp .le 5, 3) := by decide +kernel
theorem dX3_can_34 : decode cX3_can 34 = .ok (.iconst 0, 1) := by decide +kernel
theorem dX3_can_35 : decode cX3_can 35 = .ok (.ireturn, 1) := by decide +kernel
theorem dX3_can_36 : decode cX3_can 36 = .ok (.iload_n 1, 1) := by decide +kernel
theorem dX3_can_37 : decode cX3_can 37 = .ok (.iconst 1, 1) := by decide +kernel
theorem dX3_can_38 : decode cX3_can 38 = .ok (.isub, 1) := by decide +kernel
theorem dX3_can_39 : decode cX3_can 39 = .ok (.istore_n 3, 1) := by decide +kernel
theorem dX3_can_40 : decode cX3_can 40 = .ok (.iload_n 3, 1) := by decide +kernel
theorem dX3_can_41 : decode cX3_can 41 = .ok (.iload_n 1, 1) := by decide +kernel
theorem dX3_can_42 : decode cX3_can 42 = .ok (.iconst 1, 1) := by decide +kernel
theorem dX3_can_43 : decode cX3_can 43 = .ok (.iadd, 1) := by decide +kernel
theorem dX3_can_44 : decode cX3_can 44 = .ok (.if_icmp .gt 47, 3) := by decide +kernel
theorem dX3_can_47 : decode cX3_can 47 = .ok (.aload_n 0, 1) := by decide +kernel
theorem dX3_can_48 : decode cX3_can 48 = .ok (.getfield 29, 3) := by decide +kernel
theorem dX3_can_51 : decode cX3_can 51 = .ok (.iload_n 3, 1) := by decide +kernel
theorem dX3_can_52 : decode cX3_can 52 = .ok (.iaload, 1) := by decide +kernel
theorem dX3_can_53 : decode cX3_can 53 = .ok (.iload_n 2, 1) := by decide +kernel
theorem dX3_can_54 : decode cX3_can 54 = .ok (.invokestatic 50, 3) := by decide +kernel
theorem dX3_can_57 : decode cX3_can 57 = .ok (.istore 4, 2) := by decide +kernel
theorem dX3_can_59 : decode cX3_can 59 = .ok (.iload 4, 2) := by decide +kernel
theorem dX3_can_61 : decode cX3_can 61 = .ok (.ifCond .lt 22, 3) := by decide +kernel
theorem dX3_can_64 : decode cX3_can 64 = .ok (.aload_n 0, 1) := by decide +kernel
theorem dX3_can_65 : decode cX3_can 65 = .ok (.iload 4, 2) := by decide +kernel
theorem dX3_can_67 : decode cX3_can 67 = .ok (.invokevirtual 70, 3) := by decide +kernel
theorem dX3_can_70 : decode cX3_can 70 = .ok (.ifCond .ge 13, 3) := by decide +kernel
theorem dX3_can_73 : decode cX3_can 73 = .ok (.aload_n 0, 1) := by decide +kernel
theorem dX3_can_74 : decode cX3_can 74 = .ok (.getfield 13, 3) := by decide +kernel
theorem dX3_can_77 : decode cX3_can 77 = .ok (.iload 4, 2) := by decide +kernel
theorem dX3_can_79 : decode cX3_can 79 = .ok (.baload, 1) := by decide +kernel
theorem dX3_can_80 : decode cX3_can 80 = .ok (.ifCond .eq 5, 3) := by decide +kernel
theorem dX3_can_83 : decode cX3_can 83 = .ok (.iconst 0, 1) := by decide +kernel
theorem dX3_can_84 : decode cX3_can 84 = .ok (.ireturn, 1) := by decide +kernel
theorem dX3_can_85 : decode cX3_can 85 = .ok (.iinc 3 1, 3) := by decide +kernel
theorem dX3_can_88 : decode cX3_can 88 = .ok (.goto (-48), 3) := by decide +kernel
theorem dX3_can_91 : decode cX3_can 91 = .ok (.iconst 1, 1) := by decide +kernel
theorem dX3_can_92 : decode cX3_can 92 = .ok (.ireturn, 1) := by decide +kernel
set_option maxRecDepth 20000 in
theorem ggX3_bulge_X3_to : GoodIn wsX3_bulge wsX3_to := goodIn_r _ [8] (by decide +kernel) (by decide +kernel)
set_option maxRecDepth 20000 in
theorem gX3_bulge_X3_to : GoodIn wsX3_bulge (va_wsS RX3 50 yX3_to wsX3_to) := goodIn_app (goodIn_of _ (by decide +kernel)) ggX3_bulge_X3_to
set_option maxRecDepth 20000 in
theorem ggX3_bulge_X3_place : GoodIn wsX3_bulge wsX3_place := goodIn_r _ [12, 13, 1, 14, 15, 16, 17, 18, 19, 20, 21, 22] (by decide +kernel) (by decide +kernel)
set_option maxRecDepth 20000 in
theorem gX3_bulge_X3_place : GoodIn wsX3_bulge (wsV RX3 32 RX3 yX3_place wsX3_place) := goodIn_app (goodIn_of _ (by decide +kernel)) ggX3_bulge_X3_place
theorem dX3_bulge_0 : decode cX3_bulge 0 = .ok (.aload_n 0, 1) := by decide +kernel
theorem dX3_bulge_1 : decode cX3_bulge 1 = .ok (.getfield 29, 3) := by decide +kernel
theorem dX3_bulge_4 : decode cX3_bulge 4 = .ok (.arraylength, 1) := by decide +kernel
theorem dX3_bulge_5 : decode cX3_bulge 5 = .ok (.iconst 2, 1) := by decide +kernel
theorem dX3_bulge_6 : decode cX3_bulge 6 = .ok (.iadd, 1) := by decide +kernel
theorem dX3_bulge_7 : decode cX3_bulge 7 = .ok (.newarray .int, 2) := by decide +kernel
theorem dX3_bulge_9 : decode cX3_bulge 9 = .ok (.astore_n 3, 1) := by decide +kernel
theorem dX3_bulge_10 : decode cX3_bulge 10 = .ok (.iconst 0, 1) := by decide +kernel
theorem dX3_bulge_11 : decode cX3_bulge 11 = .ok (.istore 4, 2) := by decide +kernel
theorem dX3_bulge_13 : decode cX3_bulge 13 = .ok (.iload 4, 2) := by decide +kernel
theorem dX3_bulge_15 : decode cX3_bulge 15 = .ok (.aload_n 3, 1) := by decide +kernel
theorem dX3_bulge_16 : decode cX3_bulge 16 = .ok (.arraylength, 1) := by decide +kernel
theorem dX3_bulge_17 : decode cX3_bulge 17 = .ok (.if_icmp .ge 90, 3) := by decide +kernel
theorem dX3_bulge_20 : decode cX3_bulge 20 = .ok (.iload 4, 2) := by decide +kernel
theorem dX3_bulge_22 : decode cX3_bulge 22 = .ok (.iload_n 1, 1) := by decide +kernel
theorem dX3_bulge_23 : decode cX3_bulge 23 = .ok (.if_icmp .ge 17, 3) := by decide +kernel
theorem dX3_bulge_26 : decode cX3_bulge 26 = .ok (.aload_n 3, 1) := by decide +kernel
theorem dX3_bulge_27 : decode cX3_bulge 27 = .ok (.iload 4, 2) := by decide +kernel
theorem dX3_bulge_29 : decode cX3_bulge 29 = .ok (.aload_n 0, 1) := by decide +kernel
theorem dX3_bulge_30 : decode cX3_bulge 30 = .ok (.getfield 29, 3) := by decide +kernel
theorem dX3_bulge_33 : decode cX3_bulge 33 = .ok (.iload 4, 2) := by decide +kernel
theorem dX3_bulge_35 : decode cX3_bulge 35 = .ok (.iaload, 1) := by decide +kernel
theorem dX3_bulge_36 : decode cX3_bulge 36 = .ok (.iastore, 1) := by decide +kernel
theorem dX3_bulge_37 : decode cX3_bulge 37 = .ok (.goto 64, 3) := by decide +kernel
theorem dX3_bulge_40 : decode cX3_bulge 40 = .ok (.iload 4, 2) := by decide +kernel
theorem dX3_bulge_42 : decode cX3_bulge 42 = .ok (.iload_n 1, 1) := by decide +kernel
theorem dX3_bulge_43 : decode cX3_bulge 43 = .ok (.iconst 2, 1) := by decide +kernel
theorem dX3_bulge_44 : decode cX3_bulge 44 = .ok (.iadd, 1) := by decide +kernel
theorem dX3_bulge_45 : decode cX3_bulge 45 = .ok (.if_icmp .le 19, 3) := by decide +kernel
theorem dX3_bulge_48 : decode cX3_bulge 48 = .ok (.aload_n 3, 1) := by decide +kernel
theorem dX3_bulge_49 : decode cX3_bulge 49 = .ok (.iload 4, 2) := by decide +kernel
theorem dX3_bulge_51 : decode cX3_bulge 51 = .ok (.aload_n 0, 1) := by decide +kernel
theorem dX3_bulge_52 : decode cX3_bulge 52 = .ok (.getfield 29, 3) := by decide +kernel
theorem dX3_bulge_55 : decode cX3_bulge 55 = .ok (.iload 4, 2) := by decide +kernel
theorem dX3_bulge_57 : decode cX3_bulge 57 = .ok (.iconst 2, 1) := by decide +kernel
theorem dX3_bulge_58 : decode cX3_bulge 58 = .ok (.isub, 1) := by decide +kernel
theorem dX3_bulge_59 : decode cX3_bulge 59 = .ok (.iaload, 1) := by decide +kernel
theorem dX3_bulge_60 : decode cX3_bulge 60 = .ok (.iastore, 1) := by decide +kernel
theorem dX3_bulge_61 : decode cX3_bulge 61 = .ok (.goto 40, 3) := by decide +kernel
theorem dX3_bulge_64 : decode cX3_bulge 64 = .ok (.aload_n 3, 1) := by decide +kernel
theorem dX3_bulge_65 : decode cX3_bulge 65 = .ok (.iload 4, 2) := by decide +kernel
theorem dX3_bulge_67 : decode cX3_bulge 67 = .ok (.aload_n 0, 1) := by decide +kernel
theorem dX3_bulge_68 : decode cX3_bulge 68 = .ok (.getfield 29, 3) := by decide +kernel
theorem dX3_bulge_71 : decode cX3_bulge 71 = .ok (.iload 4, 2) := by decide +kernel
theorem dX3_bulge_73 : decode cX3_bulge 73 = .ok (.iconst 1, 1) := by decide +kernel
theorem dX3_bulge_74 : decode cX3_bulge 74 = .ok (.isub, 1) := by decide +kernel
theorem dX3_bulge_75 : decode cX3_bulge 75 = .ok (.iaload, 1) := by decide +kernel
theorem dX3_bulge_76 : decode cX3_bulge 76 = .ok (.iload_n 2, 1) := by decide +kernel
theorem dX3_bulge_77 : decode cX3_bulge 77 = .ok (.invokestatic 50, 3) := by decide +kernel
theorem dX3_bulge_80 : decode cX3_bulge 80 = .ok (.iastore, 1) := by decide +kernel
theorem dX3_bulge_81 : decode cX3_bulge 81 = .ok (.aload_n 0, 1) := by decide +kernel
theorem dX3_bulge_82 : decode cX3_bulge 82 = .ok (.getfield 17, 3) := by decide +kernel
theorem dX3_bulge_85 : decode cX3_bulge 85 = .ok (.aload_n 3, 1) := by decide +kernel
theorem dX3_bulge_86 : decode cX3_bulge 86 = .ok (.iload 4, 2) := by decide +kernel
theorem dX3_bulge_88 : decode cX3_bulge 88 = .ok (.iaload, 1) := by decide +kernel
theorem dX3_bulge_89 : decode cX3_bulge 89 = .ok (.iconst 0, 1) := by decide +kernel
theorem dX3_bulge_90 : decode cX3_bulge 90 = .ok (.iastore, 1) := by decide +kernel
theorem dX3_bulge_91 : decode cX3_bulge 91 = .ok (.aload_n 0, 1) := by decide +kernel
theorem dX3_bulge_92 : decode cX3_bulge 92 = .ok (.getfield 20, 3) := by decide +kernel
theorem dX3_bulge_95 : decode cX3_bulge 95 = .ok (.aload_n 3, 1) := by decide +kernel
theorem dX3_bulge_96 : decode cX3_bulge 96 = .ok (.iload 4, 2) := by decide +kernel
theorem dX3_bulge_98 : decode cX3_bulge 98 = .ok (.iaload, 1) := by decide +kernel
theorem dX3_bulge_99 : decode cX3_bulge 99 = .ok (.iconst 0, 1) := by decide +kernel
theorem dX3_bulge_100 : decode cX3_bulge 100 = .ok (.iastore, 1) := by decide +kernel
theorem dX3_bulge_101 : decode cX3_bulge 101 = .ok (.iinc 4 1, 3) := by decide +kernel
theorem dX3_bulge_104 : decode cX3_bulge 104 = .ok (.goto (-91), 3) := by decide +kernel
theorem dX3_bulge_107 : decode cX3_bulge 107 = .ok (.aload_n 0, 1) := by decide +kernel
theorem dX3_bulge_108 : decode cX3_bulge 108 = .ok (.aload_n 3, 1) := by decide +kernel
theorem dX3_bulge_109 : decode cX3_bulge 109 = .ok (.putfield 29, 3) := by decide +kernel
theorem dX3_bulge_112 : decode cX3_bulge 112 = .ok (.aload_n 0, 1) := by decide +kernel
theorem dX3_bulge_113 : decode cX3_bulge 113 = .ok (.invokevirtual 32, 3) := by decide +kernel
theorem dX3_bulge_116 : decode cX3_bulge 116 = .ok (.return_, 1) := by decide +kernel
set_option maxRecDepth 20000 in
theorem ggX3_through_X3_place : GoodIn wsX3_through wsX3_place := goodIn_r _ [9, 10, 1, 11, 12, 13, 14, 15, 16, 17, 18, 19] (by decide +kernel) (by decide +kernel)
set_option maxRecDepth 20000 in
theorem gX3_through_X3_place : GoodIn wsX3_through (wsV RX3 32 RX3 yX3_place wsX3_place) := goodIn_app (goodIn_of _ (by decide +kernel)) ggX3_through_X3_place
theorem dX3_through_0 : decode cX3_through 0 = .ok (.aload_n 0, 1) := by decide +kernel
theorem dX3_through_1 : decode cX3_through 1 = .ok (.getfield 29, 3) := by decide +kernel
theorem dX3_through_4 : decode cX3_through 4 = .ok (.arraylength, 1) := by decide +kernel
theorem dX3_through_5 : decode cX3_through 5 = .ok (.iload_n 2, 1) := by decide +kernel
theorem dX3_through_6 : decode cX3_through 6 = .ok (.iload_n 1, 1) := by decide +kernel
theorem dX3_through_7 : decode cX3_through 7 = .ok (.isub, 1) := by decide +kernel
theorem dX3_through_8 : decode cX3_through 8 = .ok (.iconst 1, 1) := by decide +kernel
theorem dX3_through_9 : decode cX3_through 9 = .ok (.isub, 1) := by decide +kernel
theorem dX3_through_10 : decode cX3_through 10 = .ok (.isub, 1) := by decide +kernel
theorem dX3_through_11 : decode cX3_through 11 = .ok (.newarray .int, 2) := by decide +kernel
theorem dX3_through_13 : decode cX3_through 13 = .ok (.astore_n 3, 1) := by decide +kernel
theorem dX3_through_14 : decode cX3_through 14 = .ok (.iconst 0, 1) := by decide +kernel
theorem dX3_through_15 : decode cX3_through 15 = .ok (.istore 4, 2) := by decide +kernel
theorem dX3_through_17 : decode cX3_through 17 = .ok (.iload 4, 2) := by decide +kernel
theorem dX3_through_19 : decode cX3_through 19 = .ok (.aload_n 0, 1) := by decide +kernel
theorem dX3_through_20 : decode cX3_through 20 = .ok (.getfield 29, 3) := by decide +kernel
theorem dX3_through_23 : decode cX3_through 23 = .ok (.arraylength, 1) := by decide +kernel
theorem dX3_through_24 : decode cX3_through 24 = .ok (.if_icmp .ge 69, 3) := by decide +kernel
theorem dX3_through_27 : decode cX3_through 27 = .ok (.iload 4, 2) := by decide +kernel
theorem dX3_through_29 : decode cX3_through 29 = .ok (.iload_n 1, 1) := by decide +kernel
theorem dX3_through_30 : decode cX3_through 30 = .ok (.if_icmp .gt 17, 3) := by decide +kernel
theorem dX3_through_33 : decode cX3_through 33 = .ok (.aload_n 3, 1) := by decide +kernel
theorem dX3_through_34 : decode cX3_through 34 = .ok (.iload 4, 2) := by decide +kernel
theorem dX3_through_36 : decode cX3_through 36 = .ok (.aload_n 0, 1) := by decide +kernel
theorem dX3_through_37 : decode cX3_through 37 = .ok (.getfield 29, 3) := by decide +kernel
theorem dX3_through_40 : decode cX3_through 40 = .ok (.iload 4, 2) := by decide +kernel
theorem dX3_through_42 : decode cX3_through 42 = .ok (.iaload, 1) := by decide +kernel
theorem dX3_through_43 : decode cX3_through 43 = .ok (.iastore, 1) := by decide +kernel
theorem dX3_through_44 : decode cX3_through 44 = .ok (.goto 43, 3) := by decide +kernel
theorem dX3_through_47 : decode cX3_through 47 = .ok (.iload 4, 2) := by decide +kernel
theorem dX3_through_49 : decode cX3_through 49 = .ok (.iload_n 2, 1) := by decide +kernel
theorem dX3_through_50 : decode cX3_through 50 = .ok (.if_icmp .lt 23, 3) := by decide +kernel
theorem dX3_through_53 : decode cX3_through 53 = .ok (.aload_n 3, 1) := by decide +kernel
theorem dX3_through_54 : decode cX3_through 54 = .ok (.iload 4, 2) := by decide +kernel
theorem dX3_through_56 : decode cX3_through 56 = .ok (.iload_n 2, 1) := by decide +kernel
theorem dX3_through_57 : decode cX3_through 57 = .ok (.iload_n 1, 1) := by decide +kernel
theorem dX3_through_58 : decode cX3_through 58 = .ok (.isub, 1) := by decide +kernel
theorem dX3_through_59 : decode cX3_through 59 = .ok (.iconst 1, 1) := by decide +kernel
theorem dX3_through_60 : decode cX3_through 60 = .ok (.isub, 1) := by decide +kernel
theorem dX3_through_61 : decode cX3_through 61 = .ok (.isub, 1) := by decide +kernel
theorem dX3_through_62 : decode cX3_through 62 = .ok (.aload_n 0, 1) := by decide +kernel
theorem dX3_through_63 : decode cX3_through 63 = .ok (.getfield 29, 3) := by decide +kernel
theorem dX3_through_66 : decode cX3_through 66 = .ok (.iload 4, 2) := by decide +kernel
theorem dX3_through_68 : decode cX3_through 68 = .ok (.iaload, 1) := by decide +kernel
theorem dX3_through_69 : decode cX3_through 69 = .ok (.iastore, 1) := by decide +kernel
theorem dX3_through_70 : decode cX3_through 70 = .ok (.goto 17, 3) := by decide +kernel
theorem dX3_through_73 : decode cX3_through 73 = .ok (.aload_n 0, 1) := by decide +kernel
theorem dX3_through_74 : decode cX3_through 74 = .ok (.getfield 20, 3) := by decide +kernel
theorem dX3_through_77 : decode cX3_through 77 = .ok (.aload_n 0, 1) := by decide +kernel
theorem dX3_through_78 : decode cX3_through 78 = .ok (.getfield 29, 3) := by decide +kernel
theorem dX3_through_81 : decode cX3_through 81 = .ok (.iload 4, 2) := by decide +kernel
theorem dX3_through_83 : decode cX3_through 83 = .ok (.iaload, 1) := by decide +kernel
theorem dX3_through_84 : decode cX3_through 84 = .ok (.bipush 10, 2) := by decide +kernel
theorem dX3_through_86 : decode cX3_through 86 = .ok (.iastore, 1) := by decide +kernel
theorem dX3_through_87 : decode cX3_through 87 = .ok (.iinc 4 1, 3) := by decide +kernel
theorem dX3_through_90 : decode cX3_through 90 = .ok (.goto (-73), 3) := by decide +kernel
theorem dX3_through_93 : decode cX3_through 93 = .ok (.aload_n 0, 1) := by decide +kernel
theorem dX3_through_94 : decode cX3_through 94 = .ok (.aload_n 3, 1) := by decide +kernel
theorem dX3_through_95 : decode cX3_through 95 = .ok (.putfield 29, 3) := by decide +kernel
theorem dX3_through_98 : decode cX3_through 98 = .ok (.aload_n 0, 1) := by decide +kernel
theorem dX3_through_99 : decode cX3_through 99 = .ok (.invokevirtual 32, 3) := by decide +kernel
theorem dX3_through_102 : decode cX3_through 102 = .ok (.aload_n 0, 1) := by decide +kernel
theorem dX3_through_103 : decode cX3_through 103 = .ok (.dup, 1) := by decide +kernel
theorem dX3_through_104 : decode cX3_through 104 = .ok (.getfield 39, 3) := by decide +kernel
theorem dX3_through_107 : decode cX3_through 107 = .ok (.iconst 1, 1) := by decide +kernel
theorem dX3_through_108 : decode cX3_through 108 = .ok (.iadd, 1) := by decide +kernel
theorem dX3_through_109 : decode cX3_through 109 = .ok (.putfield 39, 3) := by decide +kernel
theorem dX3_through_112 : decode cX3_through 112 = .ok (.return_, 1) := by decide +kernel
set_option maxRecDepth 20000 in
theorem ggX3_neck_X3_to : GoodIn wsX3_neck wsX3_to := goodIn_r _ [6] (by decide +kernel) (by decide +kernel)
set_option maxRecDepth 20000 in
theorem gX3_neck_X3_to : GoodIn wsX3_neck (va_wsS RX3 50 yX3_to wsX3_to) := goodIn_app (goodIn_of _ (by decide +kernel)) ggX3_neck_X3_to
set_option maxRecDepth 20000 in
theorem ggX3_neck_X3_at : GoodIn wsX3_neck wsX3_at := goodIn_r _ [10, 11, 12, 13, 14, 15, 16, 17, 18, 19, 20] (by decide +kernel) (by decide +kernel)
set_option maxRecDepth 20000 in
theorem gX3_neck_X3_at : GoodIn wsX3_neck (wsV RX3 70 RX3 yX3_at wsX3_at) := goodIn_app (goodIn_of _ (by decide +kernel)) ggX3_neck_X3_at
theorem dX3_neck_0 : decode cX3_neck 0 = .ok (.iconst 3, 1) := by decide +kernel
theorem dX3_neck_1 : decode cX3_neck 1 = .ok (.newarray .int, 2) := by decide +kernel
theorem dX3_neck_3 : decode cX3_neck 3 = .ok (.dup, 1) := by decide +kernel
theorem dX3_neck_4 : decode cX3_neck 4 = .ok (.iconst 0, 1) := by decide +kernel
theorem dX3_neck_5 : decode cX3_neck 5 = .ok (.iconst (-1), 1) := by decide +kernel
theorem dX3_neck_6 : decode cX3_neck 6 = .ok (.iastore, 1) := by decide +kernel
theorem dX3_neck_7 : decode cX3_neck 7 = .ok (.dup, 1) := by decide +kernel
theorem dX3_neck_8 : decode cX3_neck 8 = .ok (.iconst 1, 1) := by decide +kernel
theorem dX3_neck_9 : decode cX3_neck 9 = .ok (.iconst (-1), 1) := by decide +kernel
theorem dX3_neck_10 : decode cX3_neck 10 = .ok (.iastore, 1) := by decide +kernel
theorem dX3_neck_11 : decode cX3_neck 11 = .ok (.dup, 1) := by decide +kernel
theorem dX3_neck_12 : decode cX3_neck 12 = .ok (.iconst 2, 1) := by decide +kernel
theorem dX3_neck_13 : decode cX3_neck 13 = .ok (.iconst 0, 1) := by decide +kernel
theorem dX3_neck_14 : decode cX3_neck 14 = .ok (.iastore, 1) := by decide +kernel
theorem dX3_neck_15 : decode cX3_neck 15 = .ok (.astore_n 1, 1) := by decide +kernel
theorem dX3_neck_16 : decode cX3_neck 16 = .ok (.iconst 0, 1) := by decide +kernel
theorem dX3_neck_17 : decode cX3_neck 17 = .ok (.istore_n 2, 1) := by decide +kernel
theorem dX3_neck_18 : decode cX3_neck 18 = .ok (.iload_n 2, 1) := by decide +kernel
theorem dX3_neck_19 : decode cX3_neck 19 = .ok (.aload_n 0, 1) := by decide +kernel
theorem dX3_neck_20 : decode cX3_neck 20 = .ok (.getfield 29, 3) := by decide +kernel
theorem dX3_neck_23 : decode cX3_neck 23 = .ok (.arraylength, 1) := by decide +kernel
theorem dX3_neck_24 : decode cX3_neck 24 = .ok (.if_icmp .ge 101, 3) := by decide +kernel
theorem dX3_neck_27 : decode cX3_neck 27 = .ok (.iconst 0, 1) := by decide +kernel
theorem dX3_neck_28 : decode cX3_neck 28 = .ok (.istore_n 3, 1) := by decide +kernel
theorem dX3_neck_29 : decode cX3_neck 29 = .ok (.iload_n 3, 1) := by decide +kernel
theorem dX3_neck_30 : decode cX3_neck 30 = .ok (.iconst 4, 1) := by decide +kernel
theorem dX3_neck_31 : decode cX3_neck 31 = .ok (.if_icmp .ge 88, 3) := by decide +kernel
theorem dX3_neck_34 : decode cX3_neck 34 = .ok (.aload_n 0, 1) := by decide +kernel
theorem dX3_neck_35 : decode cX3_neck 35 = .ok (.getfield 29, 3) := by decide +kernel
theorem dX3_neck_38 : decode cX3_neck 38 = .ok (.iload_n 2, 1) := by decide +kernel
theorem dX3_neck_39 : decode cX3_neck 39 = .ok (.iaload, 1) := by decide +kernel
theorem dX3_neck_40 : decode cX3_neck 40 = .ok (.iload_n 3, 1) := by decide +kernel
theorem dX3_neck_41 : decode cX3_neck 41 = .ok (.invokestatic 50, 3) := by decide +kernel
theorem dX3_neck_44 : decode cX3_neck 44 = .ok (.istore 4, 2) := by decide +kernel
theorem dX3_neck_46 : decode cX3_neck 46 = .ok (.iload 4, 2) := by decide +kernel
theorem dX3_neck_48 : decode cX3_neck 48 = .ok (.ifCond .ge 7, 3) := by decide +kernel
theorem dX3_neck_51 : decode cX3_neck 51 = .ok (.iconst (-1), 1) := by decide +kernel
theorem dX3_neck_52 : decode cX3_neck 52 = .ok (.goto 9, 3) := by decide +kernel
theorem dX3_neck_55 : decode cX3_neck 55 = .ok (.aload_n 0, 1) := by decide +kernel
theorem dX3_neck_56 : decode cX3_neck 56 = .ok (.iload 4, 2) := by decide +kernel
theorem dX3_neck_58 : decode cX3_neck 58 = .ok (.invokevirtual 70, 3) := by decide +kernel
theorem dX3_neck_61 : decode cX3_neck 61 = .ok (.istore 5, 2) := by decide +kernel
theorem dX3_neck_63 : decode cX3_neck 63 = .ok (.iload 5, 2) := by decide +kernel
theorem dX3_neck_65 : decode cX3_neck 65 = .ok (.iload_n 2, 1) := by decide +kernel
theorem dX3_neck_66 : decode cX3_neck 66 = .ok (.iconst 3, 1) := by decide +kernel
theorem dX3_neck_67 : decode cX3_neck 67 = .ok (.iadd, 1) := by decide +kernel
theorem dX3_neck_68 : decode cX3_neck 68 = .ok (.if_icmp .ge 6, 3) := by decide +kernel
theorem dX3_neck_71 : decode cX3_neck 71 = .ok (.goto 42, 3) := by decide +kernel
theorem dX3_neck_74 : decode cX3_neck 74 = .ok (.aload_n 1, 1) := by decide +kernel
theorem dX3_neck_75 : decode cX3_neck 75 = .ok (.iconst 2, 1) := by decide +kernel
theorem dX3_neck_76 : decode cX3_neck 76 = .ok (.dup2, 1) := by decide +kernel
theorem dX3_neck_77 : decode cX3_neck 77 = .ok (.iaload, 1) := by decide +kernel
theorem dX3_neck_78 : decode cX3_neck 78 = .ok (.iconst 1, 1) := by decide +kernel
theorem dX3_neck_79 : decode cX3_neck 79 = .ok (.iadd, 1) := by decide +kernel
theorem dX3_neck_80 : decode cX3_neck 80 = .ok (.iastore, 1) := by decide +kernel
theorem dX3_neck_81 : decode cX3_neck 81 = .ok (.aload_n 1, 1) := by decide +kernel
theorem dX3_neck_82 : decode cX3_neck 82 = .ok (.iconst 0, 1) := by decide +kernel
theorem dX3_neck_83 : decode cX3_neck 83 = .ok (.iaload, 1) := by decide +kernel
theorem dX3_neck_84 : decode cX3_neck 84 = .ok (.ifCond .lt 20, 3) := by decide +kernel
theorem dX3_neck_87 : decode cX3_neck 87 = .ok (.iload 5, 2) := by decide +kernel
theorem dX3_neck_89 : decode cX3_neck 89 = .ok (.iload_n 2, 1) := by decide +kernel
theorem dX3_neck_90 : decode cX3_neck 90 = .ok (.isub, 1) := by decide +kernel
theorem dX3_neck_91 : decode cX3_neck 91 = .ok (.aload_n 1, 1) := by decide +kernel
theorem dX3_neck_92 : decode cX3_neck 92 = .ok (.iconst 1, 1) := by decide +kernel
theorem dX3_neck_93 : decode cX3_neck 93 = .ok (.iaload, 1) := by decide +kernel
theorem dX3_neck_94 : decode cX3_neck 94 = .ok (.aload_n 1, 1) := by decide +kernel
theorem dX3_neck_95 : decode cX3_neck 95 = .ok (.iconst 0, 1) := by decide +kernel
theorem dX3_neck_96 : decode cX3_neck 96 = .ok (.iaload, 1) := by decide +kernel
theorem dX3_neck_97 : decode cX3_neck 97 = .ok (.isub, 1) := by decide +kernel
theorem dX3_neck_98 : decode cX3_neck 98 = .ok (.if_icmp .gt 6, 3) := by decide +kernel
theorem dX3_neck_101 : decode cX3_neck 101 = .ok (.goto 12, 3) := by decide +kernel
theorem dX3_neck_104 : decode cX3_neck 104 = .ok (.aload_n 1, 1) := by decide +kernel
theorem dX3_neck_105 : decode cX3_neck 105 = .ok (.iconst 0, 1) := by decide +kernel
theorem dX3_neck_106 : decode cX3_neck 106 = .ok (.iload_n 2, 1) := by decide +kernel
theorem dX3_neck_107 : decode cX3_neck 107 = .ok (.iastore, 1) := by decide +kernel
theorem dX3_neck_108 : decode cX3_neck 108 = .ok (.aload_n 1, 1) := by decide +kernel
theorem dX3_neck_109 : decode cX3_neck 109 = .ok (.iconst 1, 1) := by decide +kernel
theorem dX3_neck_110 : decode cX3_neck 110 = .ok (.iload 5, 2) := by decide +kernel
theorem dX3_neck_112 : decode cX3_neck 112 = .ok (.iastore, 1) := by decide +kernel
theorem dX3_neck_113 : decode cX3_neck 113 = .ok (.iinc 3 1, 3) := by decide +kernel
theorem dX3_neck_116 : decode cX3_neck 116 = .ok (.goto (-87), 3) := by decide +kernel
theorem dX3_neck_119 : decode cX3_neck 119 = .ok (.iinc 2 1, 3) := by decide +kernel
theorem dX3_neck_122 : decode cX3_neck 122 = .ok (.goto (-104), 3) := by decide +kernel
theorem dX3_neck_125 : decode cX3_neck 125 = .ok (.aload_n 1, 1) := by decide +kernel
theorem dX3_neck_126 : decode cX3_neck 126 = .ok (.areturn, 1) := by decide +kernel
set_option maxRecDepth 20000 in
theorem ggX3_flood_X3_neck : GoodIn wsX3_flood wsX3_neck := goodIn_r _ [5, 6, 7, 8, 9, 4, 10, 11, 12, 13, 14, 15, 26, 27, 28, 29, 30, 31, 32, 33, 34] (by decide +kernel) (by decide +kernel)
set_option maxRecDepth 20000 in
theorem gX3_flood_X3_neck : GoodIn wsX3_flood (wsV RX3 73 RX3 yX3_neck wsX3_neck) := goodIn_app (goodIn_of _ (by decide +kernel)) ggX3_flood_X3_neck
set_option maxRecDepth 20000 in
theorem ggX3_flood_X3_through : GoodIn wsX3_flood wsX3_through := goodIn_r _ [19, 7, 6, 20, 21, 22, 23, 24, 4, 25, 15, 26, 27, 28, 29, 30, 31, 32, 33, 34] (by decide +kernel) (by decide +kernel)
set_option maxRecDepth 20000 in
theorem gX3_flood_X3_through : GoodIn wsX3_flood (wsV RX3 77 RX3 yX3_through wsX3_through) := goodIn_app (goodIn_of _ (by decide +kernel)) ggX3_flood_X3_through
theorem dX3_flood_0 : decode cX3_flood 0 = .ok (.aload_n 0, 1) := by decide +kernel
theorem dX3_flood_1 : decode cX3_flood 1 = .ok (.invokevirtual 73, 3) := by decide +kernel
theorem dX3_flood_4 : decode cX3_flood 4 = .ok (.astore_n 1, 1) := by decide +kernel
theorem dX3_flood_5 : decode cX3_flood 5 = .ok (.aload_n 1, 1) := by decide +kernel
theorem dX3_flood_6 : decode cX3_flood 6 = .ok (.iconst 0, 1) := by decide +kernel
theorem dX3_flood_7 : decode cX3_flood 7 = .ok (.iaload, 1) := by decide +kernel
theorem dX3_flood_8 : decode cX3_flood 8 = .ok (.ifCond .lt 21, 3) := by decide +kernel
theorem dX3_flood_11 : decode cX3_flood 11 = .ok (.aload_n 0, 1) := by decide +kernel
theorem dX3_flood_12 : decode cX3_flood 12 = .ok (.aload_n 1, 1) := by decide +kernel
theorem dX3_flood_13 : decode cX3_flood 13 = .ok (.iconst 0, 1) := by decide +kernel
theorem dX3_flood_14 : decode cX3_flood 14 = .ok (.iaload, 1) := by decide +kernel
theorem dX3_flood_15 : decode cX3_flood 15 = .ok (.aload_n 1, 1) := by decide +kernel
theorem dX3_flood_16 : decode cX3_flood 16 = .ok (.iconst 1, 1) := by decide +kernel
theorem dX3_flood_17 : decode cX3_flood 17 = .ok (.iaload, 1) := by decide +kernel
theorem dX3_flood_18 : decode cX3_flood 18 = .ok (.invokevirtual 77, 3) := by decide +kernel
theorem dX3_flood_21 : decode cX3_flood 21 = .ok (.aload_n 0, 1) := by decide +kernel
theorem dX3_flood_22 : decode cX3_flood 22 = .ok (.invokevirtual 73, 3) := by decide +kernel
theorem dX3_flood_25 : decode cX3_flood 25 = .ok (.astore_n 1, 1) := by decide +kernel
theorem dX3_flood_26 : decode cX3_flood 26 = .ok (.goto (-21), 3) := by decide +kernel
theorem dX3_flood_29 : decode cX3_flood 29 = .ok (.return_, 1) := by decide +kernel
set_option maxRecDepth 20000 in
theorem ggX3_pass_X3_side : GoodIn wsX3_pass wsX3_side := goodIn_r _ [13, 14, 15, 16, 12, 17, 3, 18, 19, 20, 21, 22, 23, 24, 59, 60, 61, 62, 63, 64, 65, 66, 67] (by decide +kernel) (by decide +kernel)
set_option maxRecDepth 20000 in
theorem gX3_pass_X3_side : GoodIn wsX3_pass (wsV RX3 62 RX3 yX3_side wsX3_side) := goodIn_app (goodIn_of _ (by decide +kernel)) ggX3_pass_X3_side
set_option maxRecDepth 20000 in
theorem ggX3_pass_X3_to : GoodIn wsX3_pass wsX3_to := goodIn_r _ [24] (by decide +kernel) (by decide +kernel)
set_option maxRecDepth 20000 in
theorem gX3_pass_X3_to : GoodIn wsX3_pass (va_wsS RX3 50 yX3_to wsX3_to) := goodIn_app (goodIn_of _ (by decide +kernel)) ggX3_pass_X3_to
set_option maxRecDepth 20000 in
theorem ggX3_pass_X3_at : GoodIn wsX3_pass wsX3_at := goodIn_r _ [28, 29, 59, 60, 61, 62, 63, 64, 65, 66, 67] (by decide +kernel) (by decide +kernel)
set_option maxRecDepth 20000 in
theorem gX3_pass_X3_at : GoodIn wsX3_pass (wsV RX3 70 RX3 yX3_at wsX3_at) := goodIn_app (goodIn_of _ (by decide +kernel)) ggX3_pass_X3_at
set_option maxRecDepth 20000 in
theorem ggX3_pass_X3_can : GoodIn wsX3_pass wsX3_can := goodIn_r _ [33, 34, 35, 36, 37, 3, 5, 14, 15, 16, 12, 17, 18, 19, 20, 21, 22, 23, 24, 25, 26, 27, 28, 29, 59, 60, 61, 62, 63, 64, 65, 66, 67] (by decide +kernel) (by decide +kernel)
set_option maxRecDepth 20000 in
theorem gX3_pass_X3_can : GoodIn wsX3_pass (wsV RX3 81 RX3 yX3_can wsX3_can) := goodIn_app (goodIn_of _ (by decide +kernel)) ggX3_pass_X3_can
set_option maxRecDepth 20000 in
theorem ggX3_pass_X3_bulge : GoodIn wsX3_pass wsX3_bulge := goodIn_r _ [41, 3, 4, 6, 8, 22, 23, 12, 24, 42, 43, 44, 45, 29, 59, 60, 61, 62, 63, 64, 65, 66, 67] (by decide +kernel) (by decide +kernel)
set_option maxRecDepth 20000 in
theorem gX3_pass_X3_bulge : GoodIn wsX3_pass (wsV RX3 85 RX3 yX3_bulge wsX3_bulge) := goodIn_app (goodIn_of _ (by decide +kernel)) ggX3_pass_X3_bulge
set_option maxRecDepth 20000 in
theorem ggX3_pass_X3_flood : GoodIn wsX3_pass wsX3_flood := goodIn_r _ [49, 50, 51, 52, 12, 53, 4, 3, 22, 23, 24, 25, 26, 27, 28, 29, 54, 55, 56, 57, 8, 58, 42, 43, 44, 45, 59, 60, 61, 62, 63, 64, 65, 66, 67] (by decide +kernel) (by decide +kernel)
set_option maxRecDepth 20000 in
theorem gX3_pass_X3_flood : GoodIn wsX3_pass (wsV RX3 88 RX3 yX3_flood wsX3_flood) := goodIn_app (goodIn_of _ (by decide +kernel)) ggX3_pass_X3_flood
theorem dX3_pass_0 : decode cX3_pass 0 = .ok (.aload_n 0, 1) := by decide +kernel
theorem dX3_pass_1 : decode cX3_pass 1 = .ok (.getfield 23, 3) := by decide +kernel
theorem dX3_pass_4 : decode cX3_pass 4 = .ok (.aload_n 0, 1) := by decide +kernel
theorem dX3_pass_5 : decode cX3_pass 5 = .ok (.getfield 35, 3) := by decide +kernel
theorem dX3_pass_8 : decode cX3_pass 8 = .ok (.bipush 12, 2) := by decide +kernel
theorem dX3_pass_10 : decode cX3_pass 10 = .ok (.irem, 1) := by decide +kernel
theorem dX3_pass_11 : decode cX3_pass 11 = .ok (.iaload, 1) := by decide +kernel
theorem dX3_pass_12 : decode cX3_pass 12 = .ok (.istore_n 1, 1) := by decide +kernel
theorem dX3_pass_13 : decode cX3_pass 13 = .ok (.aload_n 0, 1) := by decide +kernel
theorem dX3_pass_14 : decode cX3_pass 14 = .ok (.getfield 29, 3) := by decide +kernel
theorem dX3_pass_17 : decode cX3_pass 17 = .ok (.arraylength, 1) := by decide +kernel
theorem dX3_pass_18 : decode cX3_pass 18 = .ok (.newarray .int, 2) := by decide +kernel
theorem dX3_pass_20 : decode cX3_pass 20 = .ok (.astore_n 2, 1) := by decide +kernel
theorem dX3_pass_21 : decode cX3_pass 21 = .ok (.iconst 0, 1) := by decide +kernel
theorem dX3_pass_22 : decode cX3_pass 22 = .ok (.istore_n 3, 1) := by decide +kernel
theorem dX3_pass_23 : decode cX3_pass 23 = .ok (.iload_n 3, 1) := by decide +kernel
theorem dX3_pass_24 : decode cX3_pass 24 = .ok (.aload_n 0, 1) := by decide +kernel
theorem dX3_pass_25 : decode cX3_pass 25 = .ok (.getfield 29, 3) := by decide +kernel
theorem dX3_pass_28 : decode cX3_pass 28 = .ok (.arraylength, 1) := by decide +kernel
theorem dX3_pass_29 : decode cX3_pass 29 = .ok (.if_icmp .ge 76, 3) := by decide +kernel
theorem dX3_pass_32 : decode cX3_pass 32 = .ok (.aload_n 2, 1) := by decide +kernel
theorem dX3_pass_33 : decode cX3_pass 33 = .ok (.iload_n 3, 1) := by decide +kernel
theorem dX3_pass_34 : decode cX3_pass 34 = .ok (.aload_n 0, 1) := by decide +kernel
theorem dX3_pass_35 : decode cX3_pass 35 = .ok (.iload_n 3, 1) := by decide +kernel
theorem dX3_pass_36 : decode cX3_pass 36 = .ok (.invokevirtual 62, 3) := by decide +kernel
theorem dX3_pass_39 : decode cX3_pass 39 = .ok (.iastore, 1) := by decide +kernel
theorem dX3_pass_40 : decode cX3_pass 40 = .ok (.aload_n 2, 1) := by decide +kernel
theorem dX3_pass_41 : decode cX3_pass 41 = .ok (.iload_n 3, 1) := by decide +kernel
theorem dX3_pass_42 : decode cX3_pass 42 = .ok (.iaload, 1) := by decide +kernel
theorem dX3_pass_43 : decode cX3_pass 43 = .ok (.ifCond .ge 7, 3) := by decide +kernel
theorem dX3_pass_46 : decode cX3_pass 46 = .ok (.iconst (-1), 1) := by decide +kernel
theorem dX3_pass_47 : decode cX3_pass 47 = .ok (.goto 15, 3) := by decide +kernel
theorem dX3_pass_50 : decode cX3_pass 50 = .ok (.aload_n 0, 1) := by decide +kernel
theorem dX3_pass_51 : decode cX3_pass 51 = .ok (.getfield 29, 3) := by decide +kernel
theorem dX3_pass_54 : decode cX3_pass 54 = .ok (.iload_n 3, 1) := by decide +kernel
theorem dX3_pass_55 : decode cX3_pass 55 = .ok (.iaload, 1) := by decide +kernel
theorem dX3_pass_56 : decode cX3_pass 56 = .ok (.aload_n 2, 1) := by decide +kernel
theorem dX3_pass_57 : decode cX3_pass 57 = .ok (.iload_n 3, 1) := by decide +kernel
theorem dX3_pass_58 : decode cX3_pass 58 = .ok (.iaload, 1) := by decide +kernel
theorem dX3_pass_59 : decode cX3_pass 59 = .ok (.invokestatic 50, 3) := by decide +kernel
theorem dX3_pass_62 : decode cX3_pass 62 = .ok (.istore 4, 2) := by decide +kernel
theorem dX3_pass_64 : decode cX3_pass 64 = .ok (.iload 4, 2) := by decide +kernel
theorem dX3_pass_66 : decode cX3_pass 66 = .ok (.ifCond .lt 33, 3) := by decide +kernel
theorem dX3_pass_69 : decode cX3_pass 69 = .ok (.aload_n 0, 1) := by decide +kernel
theorem dX3_pass_70 : decode cX3_pass 70 = .ok (.iload 4, 2) := by decide +kernel
theorem dX3_pass_72 : decode cX3_pass 72 = .ok (.invokevirtual 70, 3) := by decide +kernel
theorem dX3_pass_75 : decode cX3_pass 75 = .ok (.ifCond .ge 24, 3) := by decide +kernel
theorem dX3_pass_78 : decode cX3_pass 78 = .ok (.aload_n 0, 1) := by decide +kernel
theorem dX3_pass_79 : decode cX3_pass 79 = .ok (.getfield 13, 3) := by decide +kernel
theorem dX3_pass_82 : decode cX3_pass 82 = .ok (.iload 4, 2) := by decide +kernel
theorem dX3_pass_84 : decode cX3_pass 84 = .ok (.baload, 1) := by decide +kernel
theorem dX3_pass_85 : decode cX3_pass 85 = .ok (.ifCond .ne 14, 3) := by decide +kernel
theorem dX3_pass_88 : decode cX3_pass 88 = .ok (.aload_n 0, 1) := by decide +kernel
theorem dX3_pass_89 : decode cX3_pass 89 = .ok (.getfield 17, 3) := by decide +kernel
theorem dX3_pass_92 : decode cX3_pass 92 = .ok (.iload 4, 2) := by decide +kernel
theorem dX3_pass_94 : decode cX3_pass 94 = .ok (.dup2, 1) := by decide +kernel
theorem dX3_pass_95 : decode cX3_pass 95 = .ok (.iaload, 1) := by decide +kernel
theorem dX3_pass_96 : decode cX3_pass 96 = .ok (.iload_n 1, 1) := by decide +kernel
theorem dX3_pass_97 : decode cX3_pass 97 = .ok (.iadd, 1) := by decide +kernel
theorem dX3_pass_98 : decode cX3_pass 98 = .ok (.iastore, 1) := by decide +kernel
theorem dX3_pass_99 : decode cX3_pass 99 = .ok (.iinc 3 1, 3) := by decide +kernel
theorem dX3_pass_102 : decode cX3_pass 102 = .ok (.goto (-79), 3) := by decide +kernel
theorem dX3_pass_105 : decode cX3_pass 105 = .ok (.iconst (-1), 1) := by decide +kernel
theorem dX3_pass_106 : decode cX3_pass 106 = .ok (.istore_n 3, 1) := by decide +kernel
theorem dX3_pass_107 : decode cX3_pass 107 = .ok (.iconst 0, 1) := by decide +kernel
theorem dX3_pass_108 : decode cX3_pass 108 = .ok (.istore 4, 2) := by decide +kernel
theorem dX3_pass_110 : decode cX3_pass 110 = .ok (.aload_n 0, 1) := by decide +kernel
theorem dX3_pass_111 : decode cX3_pass 111 = .ok (.getfield 29, 3) := by decide +kernel
theorem dX3_pass_114 : decode cX3_pass 114 = .ok (.arraylength, 1) := by decide +kernel
theorem dX3_pass_115 : decode cX3_pass 115 = .ok (.iconst 1, 1) := by decide +kernel
theorem dX3_pass_116 : decode cX3_pass 116 = .ok (.isub, 1) := by decide +kernel
theorem dX3_pass_117 : decode cX3_pass 117 = .ok (.istore 5, 2) := by decide +kernel
theorem dX3_pass_119 : decode cX3_pass 119 = .ok (.iload 5, 2) := by decide +kernel
theorem dX3_pass_121 : decode cX3_pass 121 = .ok (.ifCond .lt 130, 3) := by decide +kernel
theorem dX3_pass_124 : decode cX3_pass 124 = .ok (.aload_n 2, 1) := by decide +kernel
theorem dX3_pass_125 : decode cX3_pass 125 = .ok (.iload 5, 2) := by decide +kernel
theorem dX3_pass_127 : decode cX3_pass 127 = .ok (.iaload, 1) := by decide +kernel
theorem dX3_pass_128 : decode cX3_pass 128 = .ok (.ifCond .ge 7, 3) := by decide +kernel
theorem dX3_pass_131 : decode cX3_pass 131 = .ok (.iconst (-1), 1) := by decide +kernel
theorem dX3_pass_132 : decode cX3_pass 132 = .ok (.goto 17, 3) := by decide +kernel
theorem dX3_pass_135 : decode cX3_pass 135 = .ok (.aload_n 0, 1) := by decide +kernel
theorem dX3_pass_136 : decode cX3_pass 136 = .ok (.getfield 29, 3) := by decide +kernel
theorem dX3_pass_139 : decode cX3_pass 139 = .ok (.iload 5, 2) := by decide +kernel
theorem dX3_pass_141 : decode cX3_pass 141 = .ok (.iaload, 1) := by decide +kernel
theorem dX3_pass_142 : decode cX3_pass 142 = .ok (.aload_n 2, 1) := by decide +kernel
theorem dX3_pass_143 : decode cX3_pass 143 = .ok (.iload 5, 2) := by decide +kernel
theorem dX3_pass_145 : decode cX3_pass 145 = .ok (.iaload, 1) := by decide +kernel
theorem dX3_pass_146 : decode cX3_pass 146 = .ok (.invokestatic 50, 3) := by decide +kernel
theorem dX3_pass_149 : decode cX3_pass 149 = .ok (.istore 6, 2) := by decide +kernel
theorem dX3_pass_151 : decode cX3_pass 151 = .ok (.iload 6, 2) := by decide +kernel
theorem dX3_pass_153 : decode cX3_pass 153 = .ok (.ifCond .lt 92, 3) := by decide +kernel
theorem dX3_pass_156 : decode cX3_pass 156 = .ok (.aload_n 0, 1) := by decide +kernel
theorem dX3_pass_157 : decode cX3_pass 157 = .ok (.getfield 17, 3) := by decide +kernel
theorem dX3_pass_160 : decode cX3_pass 160 = .ok (.iload 6, 2) := by decide +kernel
theorem dX3_pass_162 : decode cX3_pass 162 = .ok (.iaload, 1) := by decide +kernel
theorem dX3_pass_163 : decode cX3_pass 163 = .ok (.bipush 10, 2) := by decide +kernel
theorem dX3_pass_165 : decode cX3_pass 165 = .ok (.aload_n 0, 1) := by decide +kernel
theorem dX3_pass_166 : decode cX3_pass 166 = .ok (.getfield 7, 3) := by decide +kernel
theorem dX3_pass_169 : decode cX3_pass 169 = .ok (.iload 6, 2) := by decide +kernel
theorem dX3_pass_171 : decode cX3_pass 171 = .ok (.iaload, 1) := by decide +kernel
theorem dX3_pass_172 : decode cX3_pass 172 = .ok (.imul, 1) := by decide +kernel
theorem dX3_pass_173 : decode cX3_pass 173 = .ok (.if_icmp .lt 72, 3) := by decide +kernel
theorem dX3_pass_176 : decode cX3_pass 176 = .ok (.aload_n 0, 1) := by decide +kernel
theorem dX3_pass_177 : decode cX3_pass 177 = .ok (.iload 5, 2) := by decide +kernel
theorem dX3_pass_179 : decode cX3_pass 179 = .ok (.aload_n 2, 1) := by decide +kernel
theorem dX3_pass_180 : decode cX3_pass 180 = .ok (.iload 5, 2) := by decide +kernel
theorem dX3_pass_182 : decode cX3_pass 182 = .ok (.iaload, 1) := by decide +kernel
theorem dX3_pass_183 : decode cX3_pass 183 = .ok (.invokevirtual 81, 3) := by decide +kernel
theorem dX3_pass_186 : decode cX3_pass 186 = .ok (.ifCond .ne 6, 3) := by decide +kernel
theorem dX3_pass_189 : decode cX3_pass 189 = .ok (.goto 56, 3) := by decide +kernel
theorem dX3_pass_192 : decode cX3_pass 192 = .ok (.iload_n 3, 1) := by decide +kernel
theorem dX3_pass_193 : decode cX3_pass 193 = .ok (.ifCond .lt 29, 3) := by decide +kernel
theorem dX3_pass_196 : decode cX3_pass 196 = .ok (.aload_n 0, 1) := by decide +kernel
theorem dX3_pass_197 : decode cX3_pass 197 = .ok (.getfield 17, 3) := by decide +kernel
theorem dX3_pass_200 : decode cX3_pass 200 = .ok (.iload 6, 2) := by decide +kernel
theorem dX3_pass_202 : decode cX3_pass 202 = .ok (.iaload, 1) := by decide +kernel
theorem dX3_pass_203 : decode cX3_pass 203 = .ok (.bipush 10, 2) := by decide +kernel
theorem dX3_pass_205 : decode cX3_pass 205 = .ok (.aload_n 0, 1) := by decide +kernel
theorem dX3_pass_206 : decode cX3_pass 206 = .ok (.getfield 7, 3) := by decide +kernel
theorem dX3_pass_209 : decode cX3_pass 209 = .ok (.iload 6, 2) := by decide +kernel
theorem dX3_pass_211 : decode cX3_pass 211 = .ok (.iaload, 1) := by decide +kernel
theorem dX3_pass_212 : decode cX3_pass 212 = .ok (.imul, 1) := by decide +kernel
theorem dX3_pass_213 : decode cX3_pass 213 = .ok (.isub, 1) := by decide +kernel
theorem dX3_pass_214 : decode cX3_pass 214 = .ok (.iload 4, 2) := by decide +kernel
theorem dX3_pass_216 : decode cX3_pass 216 = .ok (.if_icmp .ge 6, 3) := by decide +kernel
theorem dX3_pass_219 : decode cX3_pass 219 = .ok (.goto 26, 3) := by decide +kernel
theorem dX3_pass_222 : decode cX3_pass 222 = .ok (.iload 5, 2) := by decide +kernel
theorem dX3_pass_224 : decode cX3_pass 224 = .ok (.istore_n 3, 1) := by decide +kernel
theorem dX3_pass_225 : decode cX3_pass 225 = .ok (.aload_n 0, 1) := by decide +kernel
theorem dX3_pass_226 : decode cX3_pass 226 = .ok (.getfield 17, 3) := by decide +kernel
theorem dX3_pass_229 : decode cX3_pass 229 = .ok (.iload 6, 2) := by decide +kernel
theorem dX3_pass_231 : decode cX3_pass 231 = .ok (.iaload, 1) := by decide +kernel
theorem dX3_pass_232 : decode cX3_pass 232 = .ok (.bipush 10, 2) := by decide +kernel
theorem dX3_pass_234 : decode cX3_pass 234 = .ok (.aload_n 0, 1) := by decide +kernel
theorem dX3_pass_235 : decode cX3_pass 235 = .ok (.getfield 7, 3) := by decide +kernel
theorem dX3_pass_238 : decode cX3_pass 238 = .ok (.iload 6, 2) := by decide +kernel
theorem dX3_pass_240 : decode cX3_pass 240 = .ok (.iaload, 1) := by decide +kernel
theorem dX3_pass_241 : decode cX3_pass 241 = .ok (.imul, 1) := by decide +kernel
theorem dX3_pass_242 : decode cX3_pass 242 = .ok (.isub, 1) := by decide +kernel
theorem dX3_pass_243 : decode cX3_pass 243 = .ok (.istore 4, 2) := by decide +kernel
theorem dX3_pass_245 : decode cX3_pass 245 = .ok (.iinc 5 (-1), 3) := by decide +kernel
theorem dX3_pass_248 : decode cX3_pass 248 = .ok (.goto (-129), 3) := by decide +kernel
theorem dX3_pass_251 : decode cX3_pass 251 = .ok (.iload_n 3, 1) := by decide +kernel
theorem dX3_pass_252 : decode cX3_pass 252 = .ok (.ifCond .lt 11, 3) := by decide +kernel
theorem dX3_pass_255 : decode cX3_pass 255 = .ok (.aload_n 0, 1) := by decide +kernel
theorem dX3_pass_256 : decode cX3_pass 256 = .ok (.iload_n 3, 1) := by decide +kernel
theorem dX3_pass_257 : decode cX3_pass 257 = .ok (.aload_n 2, 1) := by decide +kernel
theorem dX3_pass_258 : decode cX3_pass 258 = .ok (.iload_n 3, 1) := by decide +kernel
theorem dX3_pass_259 : decode cX3_pass 259 = .ok (.iaload, 1) := by decide +kernel
theorem dX3_pass_260 : decode cX3_pass 260 = .ok (.invokevirtual 85, 3) := by decide +kernel
theorem dX3_pass_263 : decode cX3_pass 263 = .ok (.iload_n 1, 1) := by decide +kernel
theorem dX3_pass_264 : decode cX3_pass 264 = .ok (.bipush 6, 2) := by decide +kernel
theorem dX3_pass_266 : decode cX3_pass 266 = .ok (.if_icmp .le 7, 3) := by decide +kernel
theorem dX3_pass_269 : decode cX3_pass 269 = .ok (.aload_n 0, 1) := by decide +kernel
theorem dX3_pass_270 : decode cX3_pass 270 = .ok (.invokevirtual 88, 3) := by decide +kernel
theorem dX3_pass_273 : decode cX3_pass 273 = .ok (.iconst 0, 1) := by decide +kernel
theorem dX3_pass_274 : decode cX3_pass 274 = .ok (.istore 5, 2) := by decide +kernel
theorem dX3_pass_276 : decode cX3_pass 276 = .ok (.iload 5, 2) := by decide +kernel
theorem dX3_pass_278 : decode cX3_pass 278 = .ok (.sipush 384, 3) := by decide +kernel
theorem dX3_pass_281 : decode cX3_pass 281 = .ok (.if_icmp .ge 30, 3) := by decide +kernel
theorem dX3_pass_284 : decode cX3_pass 284 = .ok (.aload_n 0, 1) := by decide +kernel
theorem dX3_pass_285 : decode cX3_pass 285 = .ok (.getfield 20, 3) := by decide +kernel
theorem dX3_pass_288 : decode cX3_pass 288 = .ok (.iload 5, 2) := by decide +kernel
theorem dX3_pass_290 : decode cX3_pass 290 = .ok (.iaload, 1) := by decide +kernel
theorem dX3_pass_291 : decode cX3_pass 291 = .ok (.ifCond .le 14, 3) := by decide +kernel
theorem dX3_pass_294 : decode cX3_pass 294 = .ok (.aload_n 0, 1) := by decide +kernel
theorem dX3_pass_295 : decode cX3_pass 295 = .ok (.getfield 20, 3) := by decide +kernel
theorem dX3_pass_298 : decode cX3_pass 298 = .ok (.iload 5, 2) := by decide +kernel
theorem dX3_pass_300 : decode cX3_pass 300 = .ok (.dup2, 1) := by decide +kernel
theorem dX3_pass_301 : decode cX3_pass 301 = .ok (.iaload, 1) := by decide +kernel
theorem dX3_pass_302 : decode cX3_pass 302 = .ok (.iconst 1, 1) := by decide +kernel
theorem dX3_pass_303 : decode cX3_pass 303 = .ok (.isub, 1) := by decide +kernel
theorem dX3_pass_304 : decode cX3_pass 304 = .ok (.iastore, 1) := by decide +kernel
theorem dX3_pass_305 : decode cX3_pass 305 = .ok (.iinc 5 1, 3) := by decide +kernel
theorem dX3_pass_308 : decode cX3_pass 308 = .ok (.goto (-32), 3) := by decide +kernel
theorem dX3_pass_311 : decode cX3_pass 311 = .ok (.aload_n 0, 1) := by decide +kernel
theorem dX3_pass_312 : decode cX3_pass 312 = .ok (.dup, 1) := by decide +kernel
theorem dX3_pass_313 : decode cX3_pass 313 = .ok (.getfield 35, 3) := by decide +kernel
theorem dX3_pass_316 : decode cX3_pass 316 = .ok (.iconst 1, 1) := by decide +kernel
theorem dX3_pass_317 : decode cX3_pass 317 = .ok (.iadd, 1) := by decide +kernel
theorem dX3_pass_318 : decode cX3_pass 318 = .ok (.putfield 35, 3) := by decide +kernel
theorem dX3_pass_321 : decode cX3_pass 321 = .ok (.iload_n 3, 1) := by decide +kernel
theorem dX3_pass_322 : decode cX3_pass 322 = .ok (.ifCond .lt 7, 3) := by decide +kernel
theorem dX3_pass_325 : decode cX3_pass 325 = .ok (.iconst 1, 1) := by decide +kernel
theorem dX3_pass_326 : decode cX3_pass 326 = .ok (.goto 4, 3) := by decide +kernel
theorem dX3_pass_329 : decode cX3_pass 329 = .ok (.iconst 0, 1) := by decide +kernel
theorem dX3_pass_330 : decode cX3_pass 330 = .ok (.ireturn, 1) := by decide +kernel
